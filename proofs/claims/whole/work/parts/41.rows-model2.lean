theorem dX6_chained_39 : decode cX6_chained 39 = .ok (.iadd, 1) := by decide +kernel
theorem dX6_chained_40 : decode cX6_chained 40 = .ok (.baload, 1) := by decide +kernel
theorem dX6_chained_41 : decode cX6_chained 41 = .ok (.bastore, 1) := by decide +kernel
theorem dX6_chained_42 : decode cX6_chained 42 = .ok (.iinc 2 1, 3) := by decide +kernel
theorem dX6_chained_45 : decode cX6_chained 45 = .ok (.goto (-37), 3) := by decide +kernel
theorem dX6_chained_48 : decode cX6_chained 48 = .ok (.aload_n 0, 1) := by decide +kernel
theorem dX6_chained_49 : decode cX6_chained 49 = .ok (.aload_n 0, 1) := by decide +kernel
theorem dX6_chained_50 : decode cX6_chained 50 = .ok (.getfield 49, 3) := by decide +kernel
theorem dX6_chained_53 : decode cX6_chained 53 = .ok (.iload_n 1, 1) := by decide +kernel
theorem dX6_chained_54 : decode cX6_chained 54 = .ok (.iaload, 1) := by decide +kernel
theorem dX6_chained_55 : decode cX6_chained 55 = .ok (.invokevirtual 200, 3) := by decide +kernel
theorem dX6_chained_58 : decode cX6_chained 58 = .ok (.aload_n 0, 1) := by decide +kernel
theorem dX6_chained_59 : decode cX6_chained 59 = .ok (.aload_n 0, 1) := by decide +kernel
theorem dX6_chained_60 : decode cX6_chained 60 = .ok (.getfield 52, 3) := by decide +kernel
theorem dX6_chained_63 : decode cX6_chained 63 = .ok (.iload_n 1, 1) := by decide +kernel
theorem dX6_chained_64 : decode cX6_chained 64 = .ok (.iaload, 1) := by decide +kernel
theorem dX6_chained_65 : decode cX6_chained 65 = .ok (.invokevirtual 200, 3) := by decide +kernel
theorem dX6_chained_68 : decode cX6_chained 68 = .ok (.aload_n 0, 1) := by decide +kernel
theorem dX6_chained_69 : decode cX6_chained 69 = .ok (.aload_n 0, 1) := by decide +kernel
theorem dX6_chained_70 : decode cX6_chained 70 = .ok (.getfield 55, 3) := by decide +kernel
theorem dX6_chained_73 : decode cX6_chained 73 = .ok (.iload_n 1, 1) := by decide +kernel
theorem dX6_chained_74 : decode cX6_chained 74 = .ok (.iaload, 1) := by decide +kernel
theorem dX6_chained_75 : decode cX6_chained 75 = .ok (.invokevirtual 200, 3) := by decide +kernel
theorem dX6_chained_78 : decode cX6_chained 78 = .ok (.aload_n 0, 1) := by decide +kernel
theorem dX6_chained_79 : decode cX6_chained 79 = .ok (.invokevirtual 187, 3) := by decide +kernel
theorem dX6_chained_82 : decode cX6_chained 82 = .ok (.return_, 1) := by decide +kernel
set_option maxRecDepth 20000 in
theorem ggX6_enter_X6_chained : GoodIn wsX6_enter wsX6_chained := goodIn_r _ [11, 12, 13, 5, 2, 3, 4, 14, 15, 16, 10, 17, 18, 19, 20, 21, 22, 23, 6, 24, 25, 26, 27, 28, 29, 30, 31, 32, 33, 34, 35, 36, 37, 38, 39, 40, 41, 42, 43, 44, 45, 46, 47, 48, 49, 50, 51, 52, 53, 54, 55, 56, 57, 58, 59, 60, 61, 62, 63, 64, 65, 66, 67, 68] (by decide +kernel) (by decide +kernel)
set_option maxRecDepth 20000 in
theorem gX6_enter_X6_chained : GoodIn wsX6_enter (wsV RX6 206 RX6 yX6_chained wsX6_chained) := goodIn_app (goodIn_of _ (by decide +kernel)) ggX6_enter_X6_chained
theorem dX6_enter_0 : decode cX6_enter 0 = .ok (.aload_n 0, 1) := by decide +kernel
theorem dX6_enter_1 : decode cX6_enter 1 = .ok (.getfield 203, 3) := by decide +kernel
theorem dX6_enter_4 : decode cX6_enter 4 = .ok (.sipush 200, 3) := by decide +kernel
theorem dX6_enter_7 : decode cX6_enter 7 = .ok (.if_icmp .ne 4, 3) := by decide +kernel
theorem dX6_enter_10 : decode cX6_enter 10 = .ok (.return_, 1) := by decide +kernel
theorem dX6_enter_11 : decode cX6_enter 11 = .ok (.aload_n 0, 1) := by decide +kernel
theorem dX6_enter_12 : decode cX6_enter 12 = .ok (.getfield 49, 3) := by decide +kernel
theorem dX6_enter_15 : decode cX6_enter 15 = .ok (.aload_n 0, 1) := by decide +kernel
theorem dX6_enter_16 : decode cX6_enter 16 = .ok (.getfield 203, 3) := by decide +kernel
theorem dX6_enter_19 : decode cX6_enter 19 = .ok (.iload_n 1, 1) := by decide +kernel
theorem dX6_enter_20 : decode cX6_enter 20 = .ok (.iastore, 1) := by decide +kernel
theorem dX6_enter_21 : decode cX6_enter 21 = .ok (.aload_n 0, 1) := by decide +kernel
theorem dX6_enter_22 : decode cX6_enter 22 = .ok (.getfield 52, 3) := by decide +kernel
theorem dX6_enter_25 : decode cX6_enter 25 = .ok (.aload_n 0, 1) := by decide +kernel
theorem dX6_enter_26 : decode cX6_enter 26 = .ok (.getfield 203, 3) := by decide +kernel
theorem dX6_enter_29 : decode cX6_enter 29 = .ok (.iload_n 2, 1) := by decide +kernel
theorem dX6_enter_30 : decode cX6_enter 30 = .ok (.iastore, 1) := by decide +kernel
theorem dX6_enter_31 : decode cX6_enter 31 = .ok (.aload_n 0, 1) := by decide +kernel
theorem dX6_enter_32 : decode cX6_enter 32 = .ok (.getfield 55, 3) := by decide +kernel
theorem dX6_enter_35 : decode cX6_enter 35 = .ok (.aload_n 0, 1) := by decide +kernel
theorem dX6_enter_36 : decode cX6_enter 36 = .ok (.getfield 203, 3) := by decide +kernel
theorem dX6_enter_39 : decode cX6_enter 39 = .ok (.iload_n 3, 1) := by decide +kernel
theorem dX6_enter_40 : decode cX6_enter 40 = .ok (.iastore, 1) := by decide +kernel
theorem dX6_enter_41 : decode cX6_enter 41 = .ok (.aload_n 0, 1) := by decide +kernel
theorem dX6_enter_42 : decode cX6_enter 42 = .ok (.aload_n 0, 1) := by decide +kernel
theorem dX6_enter_43 : decode cX6_enter 43 = .ok (.getfield 203, 3) := by decide +kernel
theorem dX6_enter_46 : decode cX6_enter 46 = .ok (.invokevirtual 206, 3) := by decide +kernel
theorem dX6_enter_49 : decode cX6_enter 49 = .ok (.iconst 0, 1) := by decide +kernel
theorem dX6_enter_50 : decode cX6_enter 50 = .ok (.istore 4, 2) := by decide +kernel
theorem dX6_enter_52 : decode cX6_enter 52 = .ok (.iload 4, 2) := by decide +kernel
theorem dX6_enter_54 : decode cX6_enter 54 = .ok (.bipush 32, 2) := by decide +kernel
theorem dX6_enter_56 : decode cX6_enter 56 = .ok (.if_icmp .ge 31, 3) := by decide +kernel
theorem dX6_enter_59 : decode cX6_enter 59 = .ok (.aload_n 0, 1) := by decide +kernel
theorem dX6_enter_60 : decode cX6_enter 60 = .ok (.getfield 58, 3) := by decide +kernel
theorem dX6_enter_63 : decode cX6_enter 63 = .ok (.bipush 32, 2) := by decide +kernel
theorem dX6_enter_65 : decode cX6_enter 65 = .ok (.aload_n 0, 1) := by decide +kernel
theorem dX6_enter_66 : decode cX6_enter 66 = .ok (.getfield 203, 3) := by decide +kernel
theorem dX6_enter_69 : decode cX6_enter 69 = .ok (.imul, 1) := by decide +kernel
theorem dX6_enter_70 : decode cX6_enter 70 = .ok (.iload 4, 2) := by decide +kernel
theorem dX6_enter_72 : decode cX6_enter 72 = .ok (.iadd, 1) := by decide +kernel
theorem dX6_enter_73 : decode cX6_enter 73 = .ok (.aload_n 0, 1) := by decide +kernel
theorem dX6_enter_74 : decode cX6_enter 74 = .ok (.getfield 67, 3) := by decide +kernel
theorem dX6_enter_77 : decode cX6_enter 77 = .ok (.iload 4, 2) := by decide +kernel
theorem dX6_enter_79 : decode cX6_enter 79 = .ok (.baload, 1) := by decide +kernel
theorem dX6_enter_80 : decode cX6_enter 80 = .ok (.bastore, 1) := by decide +kernel
theorem dX6_enter_81 : decode cX6_enter 81 = .ok (.iinc 4 1, 3) := by decide +kernel
theorem dX6_enter_84 : decode cX6_enter 84 = .ok (.goto (-32), 3) := by decide +kernel
theorem dX6_enter_87 : decode cX6_enter 87 = .ok (.aload_n 0, 1) := by decide +kernel
theorem dX6_enter_88 : decode cX6_enter 88 = .ok (.dup, 1) := by decide +kernel
theorem dX6_enter_89 : decode cX6_enter 89 = .ok (.getfield 203, 3) := by decide +kernel
theorem dX6_enter_92 : decode cX6_enter 92 = .ok (.iconst 1, 1) := by decide +kernel
theorem dX6_enter_93 : decode cX6_enter 93 = .ok (.iadd, 1) := by decide +kernel
theorem dX6_enter_94 : decode cX6_enter 94 = .ok (.putfield 203, 3) := by decide +kernel
theorem dX6_enter_97 : decode cX6_enter 97 = .ok (.return_, 1) := by decide +kernel
theorem dX6_octet_0 : decode cX6_octet 0 = .ok (.aload_n 0, 1) := by decide +kernel
theorem dX6_octet_1 : decode cX6_octet 1 = .ok (.iconst 0, 1) := by decide +kernel
theorem dX6_octet_2 : decode cX6_octet 2 = .ok (.putfield 160, 3) := by decide +kernel
theorem dX6_octet_5 : decode cX6_octet 5 = .ok (.aload_n 0, 1) := by decide +kernel
theorem dX6_octet_6 : decode cX6_octet 6 = .ok (.getfield 209, 3) := by decide +kernel
theorem dX6_octet_9 : decode cX6_octet 9 = .ok (.sipush 200, 3) := by decide +kernel
theorem dX6_octet_12 : decode cX6_octet 12 = .ok (.if_icmp .ne 4, 3) := by decide +kernel
theorem dX6_octet_15 : decode cX6_octet 15 = .ok (.return_, 1) := by decide +kernel
theorem dX6_octet_16 : decode cX6_octet 16 = .ok (.aload_n 0, 1) := by decide +kernel
theorem dX6_octet_17 : decode cX6_octet 17 = .ok (.getfield 7, 3) := by decide +kernel
theorem dX6_octet_20 : decode cX6_octet 20 = .ok (.aload_n 0, 1) := by decide +kernel
theorem dX6_octet_21 : decode cX6_octet 21 = .ok (.getfield 209, 3) := by decide +kernel
theorem dX6_octet_24 : decode cX6_octet 24 = .ok (.iload_n 1, 1) := by decide +kernel
theorem dX6_octet_25 : decode cX6_octet 25 = .ok (.i2b, 1) := by decide +kernel
theorem dX6_octet_26 : decode cX6_octet 26 = .ok (.bastore, 1) := by decide +kernel
theorem dX6_octet_27 : decode cX6_octet 27 = .ok (.aload_n 0, 1) := by decide +kernel
theorem dX6_octet_28 : decode cX6_octet 28 = .ok (.dup, 1) := by decide +kernel
theorem dX6_octet_29 : decode cX6_octet 29 = .ok (.getfield 209, 3) := by decide +kernel
theorem dX6_octet_32 : decode cX6_octet 32 = .ok (.iconst 1, 1) := by decide +kernel
theorem dX6_octet_33 : decode cX6_octet 33 = .ok (.iadd, 1) := by decide +kernel
theorem dX6_octet_34 : decode cX6_octet 34 = .ok (.putfield 209, 3) := by decide +kernel
theorem dX6_octet_37 : decode cX6_octet 37 = .ok (.return_, 1) := by decide +kernel
theorem dX6_gather_0 : decode cX6_gather 0 = .ok (.aload_n 0, 1) := by decide +kernel
theorem dX6_gather_1 : decode cX6_gather 1 = .ok (.aload_n 0, 1) := by decide +kernel
theorem dX6_gather_2 : decode cX6_gather 2 = .ok (.getfield 209, 3) := by decide +kernel
theorem dX6_gather_5 : decode cX6_gather 5 = .ok (.putfield 179, 3) := by decide +kernel
theorem dX6_gather_8 : decode cX6_gather 8 = .ok (.iconst 0, 1) := by decide +kernel
theorem dX6_gather_9 : decode cX6_gather 9 = .ok (.istore_n 1, 1) := by decide +kernel
theorem dX6_gather_10 : decode cX6_gather 10 = .ok (.iload_n 1, 1) := by decide +kernel
theorem dX6_gather_11 : decode cX6_gather 11 = .ok (.aload_n 0, 1) := by decide +kernel
theorem dX6_gather_12 : decode cX6_gather 12 = .ok (.getfield 209, 3) := by decide +kernel
theorem dX6_gather_15 : decode cX6_gather 15 = .ok (.if_icmp .ge 21, 3) := by decide +kernel
theorem dX6_gather_18 : decode cX6_gather 18 = .ok (.aload_n 0, 1) := by decide +kernel
theorem dX6_gather_19 : decode cX6_gather 19 = .ok (.getfield 64, 3) := by decide +kernel
theorem dX6_gather_22 : decode cX6_gather 22 = .ok (.iload_n 1, 1) := by decide +kernel
theorem dX6_gather_23 : decode cX6_gather 23 = .ok (.aload_n 0, 1) := by decide +kernel
theorem dX6_gather_24 : decode cX6_gather 24 = .ok (.getfield 7, 3) := by decide +kernel
theorem dX6_gather_27 : decode cX6_gather 27 = .ok (.iload_n 1, 1) := by decide +kernel
theorem dX6_gather_28 : decode cX6_gather 28 = .ok (.baload, 1) := by decide +kernel
theorem dX6_gather_29 : decode cX6_gather 29 = .ok (.bastore, 1) := by decide +kernel
theorem dX6_gather_30 : decode cX6_gather 30 = .ok (.iinc 1 1, 3) := by decide +kernel
theorem dX6_gather_33 : decode cX6_gather 33 = .ok (.goto (-23), 3) := by decide +kernel
theorem dX6_gather_36 : decode cX6_gather 36 = .ok (.return_, 1) := by decide +kernel
set_option maxRecDepth 20000 in
theorem ggX6_digest_X6_in : GoodIn wsX6_digest wsX6_in := goodIn_r _ [8] (by decide +kernel) (by decide +kernel)
set_option maxRecDepth 20000 in
theorem gX6_digest_X6_in : GoodIn wsX6_digest (va_wsS RX6 166 yX6_in wsX6_in) := goodIn_app (goodIn_of _ (by decide +kernel)) ggX6_digest_X6_in
set_option maxRecDepth 20000 in
theorem ggX6_digest_X6_gather : GoodIn wsX6_digest wsX6_gather := goodIn_r _ [12, 13, 14, 15, 16, 41, 42, 43, 44, 45, 46, 47, 48, 49, 50, 51, 52, 53, 54, 55, 56, 57, 58, 59, 60, 61, 62, 63, 64, 65, 66, 67, 68, 69, 70, 71, 72] (by decide +kernel) (by decide +kernel)
set_option maxRecDepth 20000 in
theorem gX6_digest_X6_gather : GoodIn wsX6_digest (wsV RX6 212 RX6 yX6_gather wsX6_gather) := goodIn_app (goodIn_of _ (by decide +kernel)) ggX6_digest_X6_gather
set_option maxRecDepth 20000 in
theorem ggX6_digest_X6_long1 : GoodIn wsX6_digest wsX6_long1 := goodIn_r _ [20, 14, 15, 21, 22, 4, 23, 24, 25, 7, 26, 27, 28, 29, 30, 31, 32, 33, 34, 35, 41, 42, 43, 44, 45, 46, 47, 48, 49, 50, 51, 52, 53, 54, 55, 56, 57, 58, 59, 60, 61, 62, 63, 64, 65, 66, 67, 68, 69, 70, 71, 72] (by decide +kernel) (by decide +kernel)
set_option maxRecDepth 20000 in
theorem gX6_digest_X6_long1 : GoodIn wsX6_digest (wsV RX6 187 RX6 yX6_long1 wsX6_long1) := goodIn_app (goodIn_of _ (by decide +kernel)) ggX6_digest_X6_long1
set_option maxRecDepth 20000 in
theorem ggX6_digest_X6_short1 : GoodIn wsX6_digest wsX6_short1 := goodIn_r _ [39, 14, 15, 40, 4, 41, 42, 43, 44, 45, 46, 47, 48, 49, 50, 51, 52, 53, 54, 55, 56, 57, 58, 59, 60, 61, 62, 63, 64, 65, 66, 67, 68, 69, 70, 71, 72] (by decide +kernel) (by decide +kernel)
set_option maxRecDepth 20000 in
theorem gX6_digest_X6_short1 : GoodIn wsX6_digest (wsV RX6 190 RX6 yX6_short1 wsX6_short1) := goodIn_app (goodIn_of _ (by decide +kernel)) ggX6_digest_X6_short1
theorem dX6_digest_0 : decode cX6_digest 0 = .ok (.aload_n 0, 1) := by decide +kernel
theorem dX6_digest_1 : decode cX6_digest 1 = .ok (.iconst 0, 1) := by decide +kernel
theorem dX6_digest_2 : decode cX6_digest 2 = .ok (.putfield 160, 3) := by decide +kernel
theorem dX6_digest_5 : decode cX6_digest 5 = .ok (.iload_n 1, 1) := by decide +kernel
theorem dX6_digest_6 : decode cX6_digest 6 = .ok (.iconst 0, 1) := by decide +kernel
theorem dX6_digest_7 : decode cX6_digest 7 = .ok (.iconst 1, 1) := by decide +kernel
theorem dX6_digest_8 : decode cX6_digest 8 = .ok (.invokestatic 166, 3) := by decide +kernel
theorem dX6_digest_11 : decode cX6_digest 11 = .ok (.ifCond .ne 6, 3) := by decide +kernel
theorem dX6_digest_14 : decode cX6_digest 14 = .ok (.bipush (-2), 2) := by decide +kernel
theorem dX6_digest_16 : decode cX6_digest 16 = .ok (.ireturn, 1) := by decide +kernel
theorem dX6_digest_17 : decode cX6_digest 17 = .ok (.aload_n 0, 1) := by decide +kernel
theorem dX6_digest_18 : decode cX6_digest 18 = .ok (.invokevirtual 212, 3) := by decide +kernel
theorem dX6_digest_21 : decode cX6_digest 21 = .ok (.iload_n 1, 1) := by decide +kernel
theorem dX6_digest_22 : decode cX6_digest 22 = .ok (.ifCond .ne 10, 3) := by decide +kernel
theorem dX6_digest_25 : decode cX6_digest 25 = .ok (.aload_n 0, 1) := by decide +kernel
theorem dX6_digest_26 : decode cX6_digest 26 = .ok (.invokevirtual 187, 3) := by decide +kernel
theorem dX6_digest_29 : decode cX6_digest 29 = .ok (.goto 7, 3) := by decide +kernel
theorem dX6_digest_32 : decode cX6_digest 32 = .ok (.aload_n 0, 1) := by decide +kernel
theorem dX6_digest_33 : decode cX6_digest 33 = .ok (.invokevirtual 190, 3) := by decide +kernel
theorem dX6_digest_36 : decode cX6_digest 36 = .ok (.aload_n 0, 1) := by decide +kernel
theorem dX6_digest_37 : decode cX6_digest 37 = .ok (.iload_n 1, 1) := by decide +kernel
theorem dX6_digest_38 : decode cX6_digest 38 = .ok (.ifCond .ne 8, 3) := by decide +kernel
theorem dX6_digest_41 : decode cX6_digest 41 = .ok (.bipush 32, 2) := by decide +kernel
theorem dX6_digest_43 : decode cX6_digest 43 = .ok (.goto 4, 3) := by decide +kernel
theorem dX6_digest_46 : decode cX6_digest 46 = .ok (.iconst 4, 1) := by decide +kernel
theorem dX6_digest_47 : decode cX6_digest 47 = .ok (.putfield 215, 3) := by decide +kernel
theorem dX6_digest_50 : decode cX6_digest 50 = .ok (.iconst 0, 1) := by decide +kernel
theorem dX6_digest_51 : decode cX6_digest 51 = .ok (.istore_n 2, 1) := by decide +kernel
theorem dX6_digest_52 : decode cX6_digest 52 = .ok (.iload_n 2, 1) := by decide +kernel
theorem dX6_digest_53 : decode cX6_digest 53 = .ok (.aload_n 0, 1) := by decide +kernel
theorem dX6_digest_54 : decode cX6_digest 54 = .ok (.getfield 215, 3) := by decide +kernel
theorem dX6_digest_57 : decode cX6_digest 57 = .ok (.if_icmp .ge 32, 3) := by decide +kernel
theorem dX6_digest_60 : decode cX6_digest 60 = .ok (.aload_n 0, 1) := by decide +kernel
theorem dX6_digest_61 : decode cX6_digest 61 = .ok (.getfield 61, 3) := by decide +kernel
theorem dX6_digest_64 : decode cX6_digest 64 = .ok (.iload_n 2, 1) := by decide +kernel
theorem dX6_digest_65 : decode cX6_digest 65 = .ok (.aload_n 0, 1) := by decide +kernel
theorem dX6_digest_66 : decode cX6_digest 66 = .ok (.getfield 67, 3) := by decide +kernel
theorem dX6_digest_69 : decode cX6_digest 69 = .ok (.iload_n 1, 1) := by decide +kernel
theorem dX6_digest_70 : decode cX6_digest 70 = .ok (.ifCond .ne 7, 3) := by decide +kernel
theorem dX6_digest_73 : decode cX6_digest 73 = .ok (.iload_n 2, 1) := by decide +kernel
theorem dX6_digest_74 : decode cX6_digest 74 = .ok (.goto 7, 3) := by decide +kernel
theorem dX6_digest_77 : decode cX6_digest 77 = .ok (.bipush 32, 2) := by decide +kernel
theorem dX6_digest_79 : decode cX6_digest 79 = .ok (.iload_n 2, 1) := by decide +kernel
theorem dX6_digest_80 : decode cX6_digest 80 = .ok (.iadd, 1) := by decide +kernel
theorem dX6_digest_81 : decode cX6_digest 81 = .ok (.baload, 1) := by decide +kernel
theorem dX6_digest_82 : decode cX6_digest 82 = .ok (.bastore, 1) := by decide +kernel
theorem dX6_digest_83 : decode cX6_digest 83 = .ok (.iinc 2 1, 3) := by decide +kernel
theorem dX6_digest_86 : decode cX6_digest 86 = .ok (.goto (-34), 3) := by decide +kernel
theorem dX6_digest_89 : decode cX6_digest 89 = .ok (.aload_n 0, 1) := by decide +kernel
theorem dX6_digest_90 : decode cX6_digest 90 = .ok (.getfield 215, 3) := by decide +kernel
theorem dX6_digest_93 : decode cX6_digest 93 = .ok (.ireturn, 1) := by decide +kernel
set_option maxRecDepth 20000 in
theorem ggX6_at_X6_in : GoodIn wsX6_at wsX6_in := goodIn_r _ [7] (by decide +kernel) (by decide +kernel)
set_option maxRecDepth 20000 in
theorem gX6_at_X6_in : GoodIn wsX6_at (va_wsS RX6 166 yX6_in wsX6_in) := goodIn_app (goodIn_of _ (by decide +kernel)) ggX6_at_X6_in
theorem dX6_at_0 : decode cX6_at 0 = .ok (.aload_n 0, 1) := by decide +kernel
theorem dX6_at_1 : decode cX6_at 1 = .ok (.iload_n 1, 1) := by decide +kernel
theorem dX6_at_2 : decode cX6_at 2 = .ok (.iconst 0, 1) := by decide +kernel
theorem dX6_at_3 : decode cX6_at 3 = .ok (.aload_n 0, 1) := by decide +kernel
theorem dX6_at_4 : decode cX6_at 4 = .ok (.getfield 215, 3) := by decide +kernel
theorem dX6_at_7 : decode cX6_at 7 = .ok (.iconst 1, 1) := by decide +kernel
theorem dX6_at_8 : decode cX6_at 8 = .ok (.isub, 1) := by decide +kernel
theorem dX6_at_9 : decode cX6_at 9 = .ok (.invokestatic 166, 3) := by decide +kernel
theorem dX6_at_12 : decode cX6_at 12 = .ok (.ifCond .eq 7, 3) := by decide +kernel
theorem dX6_at_15 : decode cX6_at 15 = .ok (.iconst 0, 1) := by decide +kernel
theorem dX6_at_16 : decode cX6_at 16 = .ok (.goto 4, 3) := by decide +kernel
theorem dX6_at_19 : decode cX6_at 19 = .ok (.iconst 1, 1) := by decide +kernel
theorem dX6_at_20 : decode cX6_at 20 = .ok (.putfield 160, 3) := by decide +kernel
theorem dX6_at_23 : decode cX6_at 23 = .ok (.aload_n 0, 1) := by decide +kernel
theorem dX6_at_24 : decode cX6_at 24 = .ok (.getfield 160, 3) := by decide +kernel
theorem dX6_at_27 : decode cX6_at 27 = .ok (.ifCond .le 7, 3) := by decide +kernel
theorem dX6_at_30 : decode cX6_at 30 = .ok (.iconst 0, 1) := by decide +kernel
theorem dX6_at_31 : decode cX6_at 31 = .ok (.goto 13, 3) := by decide +kernel
theorem dX6_at_34 : decode cX6_at 34 = .ok (.aload_n 0, 1) := by decide +kernel
theorem dX6_at_35 : decode cX6_at 35 = .ok (.getfield 61, 3) := by decide +kernel
theorem dX6_at_38 : decode cX6_at 38 = .ok (.iload_n 1, 1) := by decide +kernel
theorem dX6_at_39 : decode cX6_at 39 = .ok (.baload, 1) := by decide +kernel
theorem dX6_at_40 : decode cX6_at 40 = .ok (.sipush 255, 3) := by decide +kernel
theorem dX6_at_43 : decode cX6_at 43 = .ok (.iand, 1) := by decide +kernel
theorem dX6_at_44 : decode cX6_at 44 = .ok (.ireturn, 1) := by decide +kernel
set_option maxRecDepth 20000 in
theorem ggX6_file_X6_in : GoodIn wsX6_file wsX6_in := goodIn_r _ [13] (by decide +kernel) (by decide +kernel)
set_option maxRecDepth 20000 in
theorem gX6_file_X6_in : GoodIn wsX6_file (va_wsS RX6 166 yX6_in wsX6_in) := goodIn_app (goodIn_of _ (by decide +kernel)) ggX6_file_X6_in
set_option maxRecDepth 20000 in
theorem ggX6_file_X6_isDay : GoodIn wsX6_file wsX6_isDay := goodIn_r _ [16, 17, 10, 11, 12, 13] (by decide +kernel) (by decide +kernel)
set_option maxRecDepth 20000 in
theorem gX6_file_X6_isDay : GoodIn wsX6_file (va_wsS RX6 218 yX6_isDay wsX6_isDay) := goodIn_app (goodIn_of _ (by decide +kernel)) ggX6_file_X6_isDay
set_option maxRecDepth 20000 in
theorem ggX6_file_X6_gather : GoodIn wsX6_file wsX6_gather := goodIn_r _ [21, 7, 22, 23, 9, 65, 66, 67, 68, 69, 70, 71, 72, 73, 74, 75, 76, 77, 78, 79, 80, 81, 82, 83, 84, 85, 86, 87, 88, 89, 90, 91, 92, 93, 94, 95, 96] (by decide +kernel) (by decide +kernel)
set_option maxRecDepth 20000 in
theorem gX6_file_X6_gather : GoodIn wsX6_file (wsV RX6 212 RX6 yX6_gather wsX6_gather) := goodIn_app (goodIn_of _ (by decide +kernel)) ggX6_file_X6_gather
set_option maxRecDepth 20000 in
theorem ggX6_file_X6_long1 : GoodIn wsX6_file wsX6_long1 := goodIn_r _ [27, 22, 23, 28, 29, 4, 30, 31, 32, 12, 33, 34, 35, 36, 37, 38, 39, 40, 41, 42, 65, 66, 67, 68, 69, 70, 71, 72, 73, 74, 75, 76, 77, 78, 79, 80, 81, 82, 83, 84, 85, 86, 87, 88, 89, 90, 91, 92, 93, 94, 95, 96] (by decide +kernel) (by decide +kernel)
set_option maxRecDepth 20000 in
theorem gX6_file_X6_long1 : GoodIn wsX6_file (wsV RX6 187 RX6 yX6_long1 wsX6_long1) := goodIn_app (goodIn_of _ (by decide +kernel)) ggX6_file_X6_long1
set_option maxRecDepth 20000 in
theorem ggX6_file_X6_short1 : GoodIn wsX6_file wsX6_short1 := goodIn_r _ [46, 22, 23, 47, 4, 65, 66, 67, 68, 69, 70, 71, 72, 73, 74, 75, 76, 77, 78, 79, 80, 81, 82, 83, 84, 85, 86, 87, 88, 89, 90, 91, 92, 93, 94, 95, 96] (by decide +kernel) (by decide +kernel)
set_option maxRecDepth 20000 in
theorem gX6_file_X6_short1 : GoodIn wsX6_file (wsV RX6 190 RX6 yX6_short1 wsX6_short1) := goodIn_app (goodIn_of _ (by decide +kernel)) ggX6_file_X6_short1
set_option maxRecDepth 20000 in
theorem ggX6_file_X6_enter : GoodIn wsX6_file wsX6_enter := goodIn_r _ [51, 52, 53, 54, 55, 56, 4, 57, 58, 59, 12, 60, 22, 23, 61, 62, 63, 64, 24, 25, 26, 27, 28, 29, 30, 31, 32, 33, 34, 35, 36, 37, 38, 39, 40, 41, 42, 65, 66, 67, 68, 69, 70, 71, 72, 73, 74, 75, 76, 77, 78, 79, 80, 81, 82, 83, 84, 85, 86, 87, 88, 89, 90, 91, 92, 93, 94, 95, 96] (by decide +kernel) (by decide +kernel)
set_option maxRecDepth 20000 in
theorem gX6_file_X6_enter : GoodIn wsX6_file (wsV RX6 221 RX6 yX6_enter wsX6_enter) := goodIn_app (goodIn_of _ (by decide +kernel)) ggX6_file_X6_enter
theorem dX6_file_0 : decode cX6_file 0 = .ok (.aload_n 0, 1) := by decide +kernel
theorem dX6_file_1 : decode cX6_file 1 = .ok (.iconst 0, 1) := by decide +kernel
theorem dX6_file_2 : decode cX6_file 2 = .ok (.putfield 160, 3) := by decide +kernel
theorem dX6_file_5 : decode cX6_file 5 = .ok (.iload_n 1, 1) := by decide +kernel
theorem dX6_file_6 : decode cX6_file 6 = .ok (.iconst 1, 1) := by decide +kernel
theorem dX6_file_7 : decode cX6_file 7 = .ok (.iconst 3, 1) := by decide +kernel
theorem dX6_file_8 : decode cX6_file 8 = .ok (.invokestatic 166, 3) := by decide +kernel
theorem dX6_file_11 : decode cX6_file 11 = .ok (.ifCond .eq 10, 3) := by decide +kernel
theorem dX6_file_14 : decode cX6_file 14 = .ok (.iload_n 2, 1) := by decide +kernel
theorem dX6_file_15 : decode cX6_file 15 = .ok (.invokestatic 218, 3) := by decide +kernel
theorem dX6_file_18 : decode cX6_file 18 = .ok (.ifCond .ne 6, 3) := by decide +kernel
theorem dX6_file_21 : decode cX6_file 21 = .ok (.bipush (-2), 2) := by decide +kernel
theorem dX6_file_23 : decode cX6_file 23 = .ok (.ireturn, 1) := by decide +kernel
theorem dX6_file_24 : decode cX6_file 24 = .ok (.aload_n 0, 1) := by decide +kernel
theorem dX6_file_25 : decode cX6_file 25 = .ok (.getfield 163, 3) := by decide +kernel
theorem dX6_file_28 : decode cX6_file 28 = .ok (.bipush 20, 2) := by decide +kernel
theorem dX6_file_30 : decode cX6_file 30 = .ok (.if_icmp .ne 6, 3) := by decide +kernel
theorem dX6_file_33 : decode cX6_file 33 = .ok (.bipush (-4), 2) := by decide +kernel
theorem dX6_file_35 : decode cX6_file 35 = .ok (.ireturn, 1) := by decide +kernel
theorem dX6_file_36 : decode cX6_file 36 = .ok (.aload_n 0, 1) := by decide +kernel
theorem dX6_file_37 : decode cX6_file 37 = .ok (.getfield 163, 3) := by decide +kernel
theorem dX6_file_40 : decode cX6_file 40 = .ok (.istore_n 3, 1) := by decide +kernel
theorem dX6_file_41 : decode cX6_file 41 = .ok (.aload_n 0, 1) := by decide +kernel
theorem dX6_file_42 : decode cX6_file 42 = .ok (.invokevirtual 212, 3) := by decide +kernel
theorem dX6_file_45 : decode cX6_file 45 = .ok (.aload_n 0, 1) := by decide +kernel
theorem dX6_file_46 : decode cX6_file 46 = .ok (.invokevirtual 187, 3) := by decide +kernel
theorem dX6_file_49 : decode cX6_file 49 = .ok (.aload_n 0, 1) := by decide +kernel
theorem dX6_file_50 : decode cX6_file 50 = .ok (.invokevirtual 190, 3) := by decide +kernel
theorem dX6_file_53 : decode cX6_file 53 = .ok (.iconst 0, 1) := by decide +kernel
theorem dX6_file_54 : decode cX6_file 54 = .ok (.istore 4, 2) := by decide +kernel
theorem dX6_file_56 : decode cX6_file 56 = .ok (.iload 4, 2) := by decide +kernel
theorem dX6_file_58 : decode cX6_file 58 = .ok (.bipush 36, 2) := by decide +kernel
theorem dX6_file_60 : decode cX6_file 60 = .ok (.if_icmp .ge 28, 3) := by decide +kernel
theorem dX6_file_63 : decode cX6_file 63 = .ok (.aload_n 0, 1) := by decide +kernel
theorem dX6_file_64 : decode cX6_file 64 = .ok (.getfield 23, 3) := by decide +kernel
theorem dX6_file_67 : decode cX6_file 67 = .ok (.bipush 36, 2) := by decide +kernel
theorem dX6_file_69 : decode cX6_file 69 = .ok (.iload_n 3, 1) := by decide +kernel
theorem dX6_file_70 : decode cX6_file 70 = .ok (.imul, 1) := by decide +kernel
theorem dX6_file_71 : decode cX6_file 71 = .ok (.iload 4, 2) := by decide +kernel
theorem dX6_file_73 : decode cX6_file 73 = .ok (.iadd, 1) := by decide +kernel
theorem dX6_file_74 : decode cX6_file 74 = .ok (.aload_n 0, 1) := by decide +kernel
theorem dX6_file_75 : decode cX6_file 75 = .ok (.getfield 67, 3) := by decide +kernel
theorem dX6_file_78 : decode cX6_file 78 = .ok (.iload 4, 2) := by decide +kernel
theorem dX6_file_80 : decode cX6_file 80 = .ok (.baload, 1) := by decide +kernel
theorem dX6_file_81 : decode cX6_file 81 = .ok (.bastore, 1) := by decide +kernel
theorem dX6_file_82 : decode cX6_file 82 = .ok (.iinc 4 1, 3) := by decide +kernel
theorem dX6_file_85 : decode cX6_file 85 = .ok (.goto (-29), 3) := by decide +kernel
theorem dX6_file_88 : decode cX6_file 88 = .ok (.aload_n 0, 1) := by decide +kernel
theorem dX6_file_89 : decode cX6_file 89 = .ok (.getfield 20, 3) := by decide +kernel
theorem dX6_file_92 : decode cX6_file 92 = .ok (.iload_n 3, 1) := by decide +kernel
theorem dX6_file_93 : decode cX6_file 93 = .ok (.iload_n 1, 1) := by decide +kernel
theorem dX6_file_94 : decode cX6_file 94 = .ok (.iastore, 1) := by decide +kernel
theorem dX6_file_95 : decode cX6_file 95 = .ok (.aload_n 0, 1) := by decide +kernel
theorem dX6_file_96 : decode cX6_file 96 = .ok (.getfield 16, 3) := by decide +kernel
theorem dX6_file_99 : decode cX6_file 99 = .ok (.iload_n 3, 1) := by decide +kernel
theorem dX6_file_100 : decode cX6_file 100 = .ok (.aload_n 0, 1) := by decide +kernel
theorem dX6_file_101 : decode cX6_file 101 = .ok (.getfield 209, 3) := by decide +kernel
theorem dX6_file_104 : decode cX6_file 104 = .ok (.iastore, 1) := by decide +kernel
theorem dX6_file_105 : decode cX6_file 105 = .ok (.iconst 0, 1) := by decide +kernel
theorem dX6_file_106 : decode cX6_file 106 = .ok (.istore 4, 2) := by decide +kernel
theorem dX6_file_108 : decode cX6_file 108 = .ok (.iload 4, 2) := by decide +kernel
theorem dX6_file_110 : decode cX6_file 110 = .ok (.aload_n 0, 1) := by decide +kernel
theorem dX6_file_111 : decode cX6_file 111 = .ok (.getfield 209, 3) := by decide +kernel
theorem dX6_file_114 : decode cX6_file 114 = .ok (.if_icmp .ge 29, 3) := by decide +kernel
theorem dX6_file_117 : decode cX6_file 117 = .ok (.aload_n 0, 1) := by decide +kernel
theorem dX6_file_118 : decode cX6_file 118 = .ok (.getfield 13, 3) := by decide +kernel
theorem dX6_file_121 : decode cX6_file 121 = .ok (.sipush 200, 3) := by decide +kernel
theorem dX6_file_124 : decode cX6_file 124 = .ok (.iload_n 3, 1) := by decide +kernel
theorem dX6_file_125 : decode cX6_file 125 = .ok (.imul, 1) := by decide +kernel
theorem dX6_file_126 : decode cX6_file 126 = .ok (.iload 4, 2) := by decide +kernel
theorem dX6_file_128 : decode cX6_file 128 = .ok (.iadd, 1) := by decide +kernel
theorem dX6_file_129 : decode cX6_file 129 = .ok (.aload_n 0, 1) := by decide +kernel
theorem dX6_file_130 : decode cX6_file 130 = .ok (.getfield 7, 3) := by decide +kernel
theorem dX6_file_133 : decode cX6_file 133 = .ok (.iload 4, 2) := by decide +kernel
theorem dX6_file_135 : decode cX6_file 135 = .ok (.baload, 1) := by decide +kernel
theorem dX6_file_136 : decode cX6_file 136 = .ok (.bastore, 1) := by decide +kernel
theorem dX6_file_137 : decode cX6_file 137 = .ok (.iinc 4 1, 3) := by decide +kernel
theorem dX6_file_140 : decode cX6_file 140 = .ok (.goto (-32), 3) := by decide +kernel
theorem dX6_file_143 : decode cX6_file 143 = .ok (.aload_n 0, 1) := by decide +kernel
theorem dX6_file_144 : decode cX6_file 144 = .ok (.iconst 0, 1) := by decide +kernel
theorem dX6_file_145 : decode cX6_file 145 = .ok (.putfield 209, 3) := by decide +kernel
theorem dX6_file_148 : decode cX6_file 148 = .ok (.aload_n 0, 1) := by decide +kernel
theorem dX6_file_149 : decode cX6_file 149 = .ok (.dup, 1) := by decide +kernel
theorem dX6_file_150 : decode cX6_file 150 = .ok (.getfield 163, 3) := by decide +kernel
theorem dX6_file_153 : decode cX6_file 153 = .ok (.iconst 1, 1) := by decide +kernel
theorem dX6_file_154 : decode cX6_file 154 = .ok (.iadd, 1) := by decide +kernel
theorem dX6_file_155 : decode cX6_file 155 = .ok (.putfield 163, 3) := by decide +kernel
theorem dX6_file_158 : decode cX6_file 158 = .ok (.aload_n 0, 1) := by decide +kernel
theorem dX6_file_159 : decode cX6_file 159 = .ok (.iconst 0, 1) := by decide +kernel
theorem dX6_file_160 : decode cX6_file 160 = .ok (.iload_n 3, 1) := by decide +kernel
theorem dX6_file_161 : decode cX6_file 161 = .ok (.iload_n 2, 1) := by decide +kernel
theorem dX6_file_162 : decode cX6_file 162 = .ok (.invokevirtual 221, 3) := by decide +kernel
theorem dX6_file_165 : decode cX6_file 165 = .ok (.iload_n 3, 1) := by decide +kernel
theorem dX6_file_166 : decode cX6_file 166 = .ok (.ireturn, 1) := by decide +kernel
set_option maxRecDepth 20000 in
theorem ggX6_alter_X6_isFile : GoodIn wsX6_alter wsX6_isFile := goodIn_r _ [8, 9, 10, 11, 7, 12, 13, 14, 15, 16, 17, 18, 19, 20, 21, 22, 23, 24, 25, 26, 27, 28, 29, 30, 31, 32, 33, 34, 35, 36, 37, 38, 39, 40, 41, 42, 43, 44] (by decide +kernel) (by decide +kernel)
set_option maxRecDepth 20000 in
theorem gX6_alter_X6_isFile : GoodIn wsX6_alter (wsV RX6 225 RX6 yX6_isFile wsX6_isFile) := goodIn_app (goodIn_of _ (by decide +kernel)) ggX6_alter_X6_isFile
set_option maxRecDepth 20000 in
theorem ggX6_alter_X6_in : GoodIn wsX6_alter wsX6_in := goodIn_r _ [12] (by decide +kernel) (by decide +kernel)
set_option maxRecDepth 20000 in
theorem gX6_alter_X6_in : GoodIn wsX6_alter (va_wsS RX6 166 yX6_in wsX6_in) := goodIn_app (goodIn_of _ (by decide +kernel)) ggX6_alter_X6_in
theorem dX6_alter_0 : decode cX6_alter 0 = .ok (.aload_n 0, 1) := by decide +kernel
theorem dX6_alter_1 : decode cX6_alter 1 = .ok (.iconst 0, 1) := by decide +kernel
theorem dX6_alter_2 : decode cX6_alter 2 = .ok (.putfield 160, 3) := by decide +kernel
theorem dX6_alter_5 : decode cX6_alter 5 = .ok (.aload_n 0, 1) := by decide +kernel
theorem dX6_alter_6 : decode cX6_alter 6 = .ok (.iload_n 1, 1) := by decide +kernel
theorem dX6_alter_7 : decode cX6_alter 7 = .ok (.invokevirtual 225, 3) := by decide +kernel
theorem dX6_alter_10 : decode cX6_alter 10 = .ok (.ifCond .eq 19, 3) := by decide +kernel
theorem dX6_alter_13 : decode cX6_alter 13 = .ok (.iload_n 2, 1) := by decide +kernel
theorem dX6_alter_14 : decode cX6_alter 14 = .ok (.iconst 0, 1) := by decide +kernel
theorem dX6_alter_15 : decode cX6_alter 15 = .ok (.aload_n 0, 1) := by decide +kernel
theorem dX6_alter_16 : decode cX6_alter 16 = .ok (.getfield 16, 3) := by decide +kernel
theorem dX6_alter_19 : decode cX6_alter 19 = .ok (.iload_n 1, 1) := by decide +kernel
theorem dX6_alter_20 : decode cX6_alter 20 = .ok (.iaload, 1) := by decide +kernel
theorem dX6_alter_21 : decode cX6_alter 21 = .ok (.iconst 1, 1) := by decide +kernel
theorem dX6_alter_22 : decode cX6_alter 22 = .ok (.isub, 1) := by decide +kernel
theorem dX6_alter_23 : decode cX6_alter 23 = .ok (.invokestatic 166, 3) := by decide +kernel
theorem dX6_alter_26 : decode cX6_alter 26 = .ok (.ifCond .ne 5, 3) := by decide +kernel
theorem dX6_alter_29 : decode cX6_alter 29 = .ok (.iconst (-1), 1) := by decide +kernel
theorem dX6_alter_30 : decode cX6_alter 30 = .ok (.ireturn, 1) := by decide +kernel
theorem dX6_alter_31 : decode cX6_alter 31 = .ok (.aload_n 0, 1) := by decide +kernel
theorem dX6_alter_32 : decode cX6_alter 32 = .ok (.getfield 13, 3) := by decide +kernel
theorem dX6_alter_35 : decode cX6_alter 35 = .ok (.sipush 200, 3) := by decide +kernel
theorem dX6_alter_38 : decode cX6_alter 38 = .ok (.iload_n 1, 1) := by decide +kernel
theorem dX6_alter_39 : decode cX6_alter 39 = .ok (.imul, 1) := by decide +kernel
theorem dX6_alter_40 : decode cX6_alter 40 = .ok (.iload_n 2, 1) := by decide +kernel
theorem dX6_alter_41 : decode cX6_alter 41 = .ok (.iadd, 1) := by decide +kernel
theorem dX6_alter_42 : decode cX6_alter 42 = .ok (.baload, 1) := by decide +kernel
theorem dX6_alter_43 : decode cX6_alter 43 = .ok (.sipush 255, 3) := by decide +kernel
theorem dX6_alter_46 : decode cX6_alter 46 = .ok (.iand, 1) := by decide +kernel
theorem dX6_alter_47 : decode cX6_alter 47 = .ok (.istore 4, 2) := by decide +kernel
theorem dX6_alter_49 : decode cX6_alter 49 = .ok (.aload_n 0, 1) := by decide +kernel
theorem dX6_alter_50 : decode cX6_alter 50 = .ok (.getfield 13, 3) := by decide +kernel
theorem dX6_alter_53 : decode cX6_alter 53 = .ok (.sipush 200, 3) := by decide +kernel
theorem dX6_alter_56 : decode cX6_alter 56 = .ok (.iload_n 1, 1) := by decide +kernel
theorem dX6_alter_57 : decode cX6_alter 57 = .ok (.imul, 1) := by decide +kernel
theorem dX6_alter_58 : decode cX6_alter 58 = .ok (.iload_n 2, 1) := by decide +kernel
theorem dX6_alter_59 : decode cX6_alter 59 = .ok (.iadd, 1) := by decide +kernel
theorem dX6_alter_60 : decode cX6_alter 60 = .ok (.iload_n 3, 1) := by decide +kernel
theorem dX6_alter_61 : decode cX6_alter 61 = .ok (.i2b, 1) := by decide +kernel
theorem dX6_alter_62 : decode cX6_alter 62 = .ok (.bastore, 1) := by decide +kernel
theorem dX6_alter_63 : decode cX6_alter 63 = .ok (.iload 4, 2) := by decide +kernel
theorem dX6_alter_65 : decode cX6_alter 65 = .ok (.ireturn, 1) := by decide +kernel
set_option maxRecDepth 20000 in
theorem ggX6_cut_X6_isFile : GoodIn wsX6_cut wsX6_isFile := goodIn_r _ [7, 8, 9, 10, 6, 11, 12, 13, 14, 15, 16, 17, 18, 19, 20, 21, 22, 23, 24, 25, 26, 27, 28, 29, 30, 31, 32, 33, 34, 35, 36, 37, 38, 39, 40, 41, 42, 43] (by decide +kernel) (by decide +kernel)
set_option maxRecDepth 20000 in
theorem gX6_cut_X6_isFile : GoodIn wsX6_cut (wsV RX6 225 RX6 yX6_isFile wsX6_isFile) := goodIn_app (goodIn_of _ (by decide +kernel)) ggX6_cut_X6_isFile
set_option maxRecDepth 20000 in
theorem ggX6_cut_X6_in : GoodIn wsX6_cut wsX6_in := goodIn_r _ [11] (by decide +kernel) (by decide +kernel)
set_option maxRecDepth 20000 in
theorem gX6_cut_X6_in : GoodIn wsX6_cut (va_wsS RX6 166 yX6_in wsX6_in) := goodIn_app (goodIn_of _ (by decide +kernel)) ggX6_cut_X6_in
theorem dX6_cut_0 : decode cX6_cut 0 = .ok (.aload_n 0, 1) := by decide +kernel
theorem dX6_cut_1 : decode cX6_cut 1 = .ok (.iconst 0, 1) := by decide +kernel
theorem dX6_cut_2 : decode cX6_cut 2 = .ok (.putfield 160, 3) := by decide +kernel
theorem dX6_cut_5 : decode cX6_cut 5 = .ok (.aload_n 0, 1) := by decide +kernel
theorem dX6_cut_6 : decode cX6_cut 6 = .ok (.iload_n 1, 1) := by decide +kernel
theorem dX6_cut_7 : decode cX6_cut 7 = .ok (.invokevirtual 225, 3) := by decide +kernel
theorem dX6_cut_10 : decode cX6_cut 10 = .ok (.ifCond .ne 5, 3) := by decide +kernel
theorem dX6_cut_13 : decode cX6_cut 13 = .ok (.iconst (-1), 1) := by decide +kernel
theorem dX6_cut_14 : decode cX6_cut 14 = .ok (.ireturn, 1) := by decide +kernel
theorem dX6_cut_15 : decode cX6_cut 15 = .ok (.iload_n 2, 1) := by decide +kernel
theorem dX6_cut_16 : decode cX6_cut 16 = .ok (.iconst 0, 1) := by decide +kernel
theorem dX6_cut_17 : decode cX6_cut 17 = .ok (.aload_n 0, 1) := by decide +kernel
theorem dX6_cut_18 : decode cX6_cut 18 = .ok (.getfield 16, 3) := by decide +kernel
theorem dX6_cut_21 : decode cX6_cut 21 = .ok (.iload_n 1, 1) := by decide +kernel
theorem dX6_cut_22 : decode cX6_cut 22 = .ok (.iaload, 1) := by decide +kernel
theorem dX6_cut_23 : decode cX6_cut 23 = .ok (.invokestatic 166, 3) := by decide +kernel
theorem dX6_cut_26 : decode cX6_cut 26 = .ok (.ifCond .ne 6, 3) := by decide +kernel
theorem dX6_cut_29 : decode cX6_cut 29 = .ok (.bipush (-2), 2) := by decide +kernel
theorem dX6_cut_31 : decode cX6_cut 31 = .ok (.ireturn, 1) := by decide +kernel
theorem dX6_cut_32 : decode cX6_cut 32 = .ok (.aload_n 0, 1) := by decide +kernel
theorem dX6_cut_33 : decode cX6_cut 33 = .ok (.getfield 16, 3) := by decide +kernel
theorem dX6_cut_36 : decode cX6_cut 36 = .ok (.iload_n 1, 1) := by decide +kernel
theorem dX6_cut_37 : decode cX6_cut 37 = .ok (.iaload, 1) := by decide +kernel
theorem dX6_cut_38 : decode cX6_cut 38 = .ok (.iload_n 2, 1) := by decide +kernel
theorem dX6_cut_39 : decode cX6_cut 39 = .ok (.isub, 1) := by decide +kernel
theorem dX6_cut_40 : decode cX6_cut 40 = .ok (.istore_n 3, 1) := by decide +kernel
theorem dX6_cut_41 : decode cX6_cut 41 = .ok (.aload_n 0, 1) := by decide +kernel
theorem dX6_cut_42 : decode cX6_cut 42 = .ok (.getfield 16, 3) := by decide +kernel
theorem dX6_cut_45 : decode cX6_cut 45 = .ok (.iload_n 1, 1) := by decide +kernel
theorem dX6_cut_46 : decode cX6_cut 46 = .ok (.iload_n 2, 1) := by decide +kernel
theorem dX6_cut_47 : decode cX6_cut 47 = .ok (.iastore, 1) := by decide +kernel
theorem dX6_cut_48 : decode cX6_cut 48 = .ok (.iload_n 3, 1) := by decide +kernel
theorem dX6_cut_49 : decode cX6_cut 49 = .ok (.ireturn, 1) := by decide +kernel
set_option maxRecDepth 20000 in
theorem ggX6_check_X6_fits : GoodIn wsX6_check wsX6_fits := goodIn_r _ [6, 7, 8, 9, 5, 10, 11, 12, 13, 14, 15, 16, 17, 18, 19, 20, 21, 22, 23, 24, 25, 26, 27, 28, 29, 30, 31, 32, 33, 34, 35, 36, 37, 38, 39, 40, 41, 42, 43, 44, 45, 63, 64, 65, 66, 67, 68, 69, 70, 71, 72, 73, 74, 75, 76, 77, 78, 79, 80, 81, 82, 83, 84, 85, 86, 87, 88, 89, 90, 91, 92, 93, 94] (by decide +kernel) (by decide +kernel)
set_option maxRecDepth 20000 in
theorem gX6_check_X6_fits : GoodIn wsX6_check (wsV RX6 228 RX6 yX6_fits wsX6_fits) := goodIn_app (goodIn_of _ (by decide +kernel)) ggX6_check_X6_fits
set_option maxRecDepth 20000 in
theorem ggX6_check_X6_enter : GoodIn wsX6_check wsX6_enter := goodIn_r _ [49, 50, 51, 52, 53, 54, 20, 55, 56, 57, 5, 58, 12, 13, 59, 60, 61, 62, 22, 23, 24, 25, 26, 27, 28, 29, 30, 31, 32, 33, 34, 35, 36, 37, 38, 39, 40, 63, 64, 65, 66, 67, 68, 69, 70, 71, 72, 73, 74, 75, 76, 77, 78, 79, 80, 81, 82, 83, 84, 85, 86, 87, 88, 89, 90, 91, 92, 93, 94] (by decide +kernel) (by decide +kernel)
set_option maxRecDepth 20000 in
theorem gX6_check_X6_enter : GoodIn wsX6_check (wsV RX6 221 RX6 yX6_enter wsX6_enter) := goodIn_app (goodIn_of _ (by decide +kernel)) ggX6_check_X6_enter
theorem dX6_check_0 : decode cX6_check 0 = .ok (.aload_n 0, 1) := by decide +kernel
theorem dX6_check_1 : decode cX6_check 1 = .ok (.iload_n 1, 1) := by decide +kernel
theorem dX6_check_2 : decode cX6_check 2 = .ok (.invokevirtual 228, 3) := by decide +kernel
theorem dX6_check_5 : decode cX6_check 5 = .ok (.istore_n 3, 1) := by decide +kernel
theorem dX6_check_6 : decode cX6_check 6 = .ok (.aload_n 0, 1) := by decide +kernel
theorem dX6_check_7 : decode cX6_check 7 = .ok (.getfield 26, 3) := by decide +kernel
theorem dX6_check_10 : decode cX6_check 10 = .ok (.iload_n 1, 1) := by decide +kernel
theorem dX6_check_11 : decode cX6_check 11 = .ok (.iload_n 3, 1) := by decide +kernel
theorem dX6_check_12 : decode cX6_check 12 = .ok (.ifCond .eq 7, 3) := by decide +kernel
theorem dX6_check_15 : decode cX6_check 15 = .ok (.iload_n 2, 1) := by decide +kernel
theorem dX6_check_16 : decode cX6_check 16 = .ok (.goto 9, 3) := by decide +kernel
theorem dX6_check_19 : decode cX6_check 19 = .ok (.aload_n 0, 1) := by decide +kernel
theorem dX6_check_20 : decode cX6_check 20 = .ok (.getfield 26, 3) := by decide +kernel
theorem dX6_check_23 : decode cX6_check 23 = .ok (.iload_n 1, 1) := by decide +kernel
theorem dX6_check_24 : decode cX6_check 24 = .ok (.iaload, 1) := by decide +kernel
theorem dX6_check_25 : decode cX6_check 25 = .ok (.iastore, 1) := by decide +kernel
theorem dX6_check_26 : decode cX6_check 26 = .ok (.aload_n 0, 1) := by decide +kernel
theorem dX6_check_27 : decode cX6_check 27 = .ok (.iload_n 3, 1) := by decide +kernel
theorem dX6_check_28 : decode cX6_check 28 = .ok (.ifCond .eq 7, 3) := by decide +kernel
theorem dX6_check_31 : decode cX6_check 31 = .ok (.iconst 1, 1) := by decide +kernel
theorem dX6_check_32 : decode cX6_check 32 = .ok (.goto 4, 3) := by decide +kernel
theorem dX6_check_35 : decode cX6_check 35 = .ok (.iconst 2, 1) := by decide +kernel
theorem dX6_check_36 : decode cX6_check 36 = .ok (.iload_n 1, 1) := by decide +kernel
theorem dX6_check_37 : decode cX6_check 37 = .ok (.iload_n 2, 1) := by decide +kernel
theorem dX6_check_38 : decode cX6_check 38 = .ok (.invokevirtual 221, 3) := by decide +kernel
theorem dX6_check_41 : decode cX6_check 41 = .ok (.iload_n 3, 1) := by decide +kernel
theorem dX6_check_42 : decode cX6_check 42 = .ok (.ireturn, 1) := by decide +kernel
set_option maxRecDepth 20000 in
theorem ggX6_read_X6_isFile : GoodIn wsX6_read wsX6_isFile := goodIn_r _ [6, 7, 8, 9, 5, 10, 80, 81, 82, 83, 84, 85, 86, 87, 88, 89, 90, 91, 92, 93, 94, 95, 96, 97, 98, 99, 100, 101, 102, 103, 104, 105, 106, 107, 108, 109, 110, 111] (by decide +kernel) (by decide +kernel)
set_option maxRecDepth 20000 in
theorem gX6_read_X6_isFile : GoodIn wsX6_read (wsV RX6 225 RX6 yX6_isFile wsX6_isFile) := goodIn_app (goodIn_of _ (by decide +kernel)) ggX6_read_X6_isFile
set_option maxRecDepth 20000 in
theorem ggX6_read_X6_isDay : GoodIn wsX6_read wsX6_isDay := goodIn_r _ [13, 14, 8, 9, 5, 10] (by decide +kernel) (by decide +kernel)
set_option maxRecDepth 20000 in
theorem gX6_read_X6_isDay : GoodIn wsX6_read (va_wsS RX6 218 yX6_isDay wsX6_isDay) := goodIn_app (goodIn_of _ (by decide +kernel)) ggX6_read_X6_isDay
set_option maxRecDepth 20000 in
theorem ggX6_read_X6_check : GoodIn wsX6_read wsX6_check := goodIn_r _ [18, 19, 20, 21, 22, 5, 23, 24, 25, 26, 27, 28, 29, 30, 31, 32, 33, 34, 35, 36, 37, 38, 39, 40, 41, 42, 43, 44, 45, 46, 47, 48, 49, 50, 51, 52, 53, 54, 55, 56, 57, 58, 59, 60, 61, 62, 63, 64, 65, 66, 67, 68, 69, 70, 71, 72, 73, 74, 75, 76, 77, 78, 79, 80, 81, 82, 83, 84, 85, 86, 87, 88, 89, 90, 91, 92, 93, 94, 95, 96, 97, 98, 99, 100, 101, 102, 103, 104, 105, 106, 107, 108, 109, 110, 111] (by decide +kernel) (by decide +kernel)
set_option maxRecDepth 20000 in
theorem gX6_read_X6_check : GoodIn wsX6_read (wsV RX6 231 RX6 yX6_check wsX6_check) := goodIn_app (goodIn_of _ (by decide +kernel)) ggX6_read_X6_check
theorem dX6_read_0 : decode cX6_read 0 = .ok (.aload_n 0, 1) := by decide +kernel
theorem dX6_read_1 : decode cX6_read 1 = .ok (.iconst 0, 1) := by decide +kernel
theorem dX6_read_2 : decode cX6_read 2 = .ok (.putfield 160, 3) := by decide +kernel
theorem dX6_read_5 : decode cX6_read 5 = .ok (.aload_n 0, 1) := by decide +kernel
theorem dX6_read_6 : decode cX6_read 6 = .ok (.iload_n 1, 1) := by decide +kernel
theorem dX6_read_7 : decode cX6_read 7 = .ok (.invokevirtual 225, 3) := by decide +kernel
theorem dX6_read_10 : decode cX6_read 10 = .ok (.ifCond .ne 5, 3) := by decide +kernel
theorem dX6_read_13 : decode cX6_read 13 = .ok (.iconst (-1), 1) := by decide +kernel
theorem dX6_read_14 : decode cX6_read 14 = .ok (.ireturn, 1) := by decide +kernel
theorem dX6_read_15 : decode cX6_read 15 = .ok (.iload_n 2, 1) := by decide +kernel
theorem dX6_read_16 : decode cX6_read 16 = .ok (.invokestatic 218, 3) := by decide +kernel
theorem dX6_read_19 : decode cX6_read 19 = .ok (.ifCond .ne 6, 3) := by decide +kernel
theorem dX6_read_22 : decode cX6_read 22 = .ok (.bipush (-2), 2) := by decide +kernel
theorem dX6_read_24 : decode cX6_read 24 = .ok (.ireturn, 1) := by decide +kernel
theorem dX6_read_25 : decode cX6_read 25 = .ok (.aload_n 0, 1) := by decide +kernel
theorem dX6_read_26 : decode cX6_read 26 = .ok (.iload_n 1, 1) := by decide +kernel
theorem dX6_read_27 : decode cX6_read 27 = .ok (.iload_n 2, 1) := by decide +kernel
theorem dX6_read_28 : decode cX6_read 28 = .ok (.invokevirtual 231, 3) := by decide +kernel
theorem dX6_read_31 : decode cX6_read 31 = .ok (.ifCond .eq 7, 3) := by decide +kernel
theorem dX6_read_34 : decode cX6_read 34 = .ok (.iconst 1, 1) := by decide +kernel
theorem dX6_read_35 : decode cX6_read 35 = .ok (.goto 4, 3) := by decide +kernel
theorem dX6_read_38 : decode cX6_read 38 = .ok (.iconst 0, 1) := by decide +kernel
theorem dX6_read_39 : decode cX6_read 39 = .ok (.ireturn, 1) := by decide +kernel
set_option maxRecDepth 20000 in
theorem ggX6_schedule_X6_isFile : GoodIn wsX6_schedule wsX6_isFile := goodIn_r _ [8, 9, 10, 11, 7, 12, 17, 18, 19, 20, 21, 22, 23, 24, 25, 26, 27, 28, 29, 30, 31, 32, 33, 34, 35, 36, 37, 38, 39, 40, 41, 42, 43, 44, 45, 46, 47, 48] (by decide +kernel) (by decide +kernel)
set_option maxRecDepth 20000 in
theorem gX6_schedule_X6_isFile : GoodIn wsX6_schedule (wsV RX6 225 RX6 yX6_isFile wsX6_isFile) := goodIn_app (goodIn_of _ (by decide +kernel)) ggX6_schedule_X6_isFile
set_option maxRecDepth 20000 in
theorem ggX6_schedule_X6_isDay : GoodIn wsX6_schedule wsX6_isDay := goodIn_r _ [15, 16, 10, 11, 7, 12] (by decide +kernel) (by decide +kernel)
set_option maxRecDepth 20000 in
theorem gX6_schedule_X6_isDay : GoodIn wsX6_schedule (va_wsS RX6 218 yX6_isDay wsX6_isDay) := goodIn_app (goodIn_of _ (by decide +kernel)) ggX6_schedule_X6_isDay
set_option maxRecDepth 20000 in
theorem ggX6_schedule_X6_in : GoodIn wsX6_schedule wsX6_in := goodIn_r _ [12] (by decide +kernel) (by decide +kernel)
set_option maxRecDepth 20000 in
theorem gX6_schedule_X6_in : GoodIn wsX6_schedule (va_wsS RX6 166 yX6_in wsX6_in) := goodIn_app (goodIn_of _ (by decide +kernel)) ggX6_schedule_X6_in
theorem dX6_schedule_0 : decode cX6_schedule 0 = .ok (.aload_n 0, 1) := by decide +kernel
theorem dX6_schedule_1 : decode cX6_schedule 1 = .ok (.iconst 0, 1) := by decide +kernel
theorem dX6_schedule_2 : decode cX6_schedule 2 = .ok (.putfield 160, 3) := by decide +kernel
theorem dX6_schedule_5 : decode cX6_schedule 5 = .ok (.aload_n 0, 1) := by decide +kernel
theorem dX6_schedule_6 : decode cX6_schedule 6 = .ok (.iload_n 1, 1) := by decide +kernel
theorem dX6_schedule_7 : decode cX6_schedule 7 = .ok (.invokevirtual 225, 3) := by decide +kernel
theorem dX6_schedule_10 : decode cX6_schedule 10 = .ok (.ifCond .ne 5, 3) := by decide +kernel
theorem dX6_schedule_13 : decode cX6_schedule 13 = .ok (.iconst (-1), 1) := by decide +kernel
theorem dX6_schedule_14 : decode cX6_schedule 14 = .ok (.ireturn, 1) := by decide +kernel
theorem dX6_schedule_15 : decode cX6_schedule 15 = .ok (.iload_n 2, 1) := by decide +kernel
theorem dX6_schedule_16 : decode cX6_schedule 16 = .ok (.invokestatic 218, 3) := by decide +kernel
theorem dX6_schedule_19 : decode cX6_schedule 19 = .ok (.ifCond .eq 14, 3) := by decide +kernel
theorem dX6_schedule_22 : decode cX6_schedule 22 = .ok (.iload_n 3, 1) := by decide +kernel
theorem dX6_schedule_23 : decode cX6_schedule 23 = .ok (.iconst 1, 1) := by decide +kernel
theorem dX6_schedule_24 : decode cX6_schedule 24 = .ok (.sipush 1000, 3) := by decide +kernel
theorem dX6_schedule_27 : decode cX6_schedule 27 = .ok (.invokestatic 166, 3) := by decide +kernel
theorem dX6_schedule_30 : decode cX6_schedule 30 = .ok (.ifCond .ne 6, 3) := by decide +kernel
theorem dX6_schedule_33 : decode cX6_schedule 33 = .ok (.bipush (-2), 2) := by decide +kernel
theorem dX6_schedule_35 : decode cX6_schedule 35 = .ok (.ireturn, 1) := by decide +kernel
theorem dX6_schedule_36 : decode cX6_schedule 36 = .ok (.aload_n 0, 1) := by decide +kernel
theorem dX6_schedule_37 : decode cX6_schedule 37 = .ok (.getfield 32, 3) := by decide +kernel
theorem dX6_schedule_40 : decode cX6_schedule 40 = .ok (.iload_n 1, 1) := by decide +kernel
theorem dX6_schedule_41 : decode cX6_schedule 41 = .ok (.iload_n 2, 1) := by decide +kernel
theorem dX6_schedule_42 : decode cX6_schedule 42 = .ok (.iastore, 1) := by decide +kernel
theorem dX6_schedule_43 : decode cX6_schedule 43 = .ok (.aload_n 0, 1) := by decide +kernel
theorem dX6_schedule_44 : decode cX6_schedule 44 = .ok (.getfield 35, 3) := by decide +kernel
theorem dX6_schedule_47 : decode cX6_schedule 47 = .ok (.iload_n 1, 1) := by decide +kernel
theorem dX6_schedule_48 : decode cX6_schedule 48 = .ok (.iload_n 3, 1) := by decide +kernel
theorem dX6_schedule_49 : decode cX6_schedule 49 = .ok (.iastore, 1) := by decide +kernel
theorem dX6_schedule_50 : decode cX6_schedule 50 = .ok (.iconst 1, 1) := by decide +kernel
theorem dX6_schedule_51 : decode cX6_schedule 51 = .ok (.ireturn, 1) := by decide +kernel
theorem dX6_isDue_0 : decode cX6_isDue 0 = .ok (.aload_n 0, 1) := by decide +kernel
theorem dX6_isDue_1 : decode cX6_isDue 1 = .ok (.getfield 32, 3) := by decide +kernel
theorem dX6_isDue_4 : decode cX6_isDue 4 = .ok (.iload_n 1, 1) := by decide +kernel
theorem dX6_isDue_5 : decode cX6_isDue 5 = .ok (.iaload, 1) := by decide +kernel
theorem dX6_isDue_6 : decode cX6_isDue 6 = .ok (.ifCond .lt 17, 3) := by decide +kernel
theorem dX6_isDue_9 : decode cX6_isDue 9 = .ok (.aload_n 0, 1) := by decide +kernel
theorem dX6_isDue_10 : decode cX6_isDue 10 = .ok (.getfield 32, 3) := by decide +kernel
theorem dX6_isDue_13 : decode cX6_isDue 13 = .ok (.iload_n 1, 1) := by decide +kernel
theorem dX6_isDue_14 : decode cX6_isDue 14 = .ok (.iaload, 1) := by decide +kernel
theorem dX6_isDue_15 : decode cX6_isDue 15 = .ok (.iload_n 2, 1) := by decide +kernel
theorem dX6_isDue_16 : decode cX6_isDue 16 = .ok (.if_icmp .gt 7, 3) := by decide +kernel
theorem dX6_isDue_19 : decode cX6_isDue 19 = .ok (.iconst 1, 1) := by decide +kernel
theorem dX6_isDue_20 : decode cX6_isDue 20 = .ok (.goto 4, 3) := by decide +kernel
theorem dX6_isDue_23 : decode cX6_isDue 23 = .ok (.iconst 0, 1) := by decide +kernel
theorem dX6_isDue_24 : decode cX6_isDue 24 = .ok (.ireturn, 1) := by decide +kernel
set_option maxRecDepth 20000 in
theorem ggX6_first_X6_isDue : GoodIn wsX6_first wsX6_isDue := goodIn_r _ [7, 2, 8, 9, 10, 11, 12, 13, 14, 15, 16, 17, 18, 19, 20, 21, 22, 23, 24, 25, 26, 27, 28, 29, 30, 31, 32, 33, 34, 35, 36, 37, 38, 39] (by decide +kernel) (by decide +kernel)
set_option maxRecDepth 20000 in
theorem gX6_first_X6_isDue : GoodIn wsX6_first (wsV RX6 235 RX6 yX6_isDue wsX6_isDue) := goodIn_app (goodIn_of _ (by decide +kernel)) ggX6_first_X6_isDue
theorem dX6_first_0 : decode cX6_first 0 = .ok (.iconst (-1), 1) := by decide +kernel
theorem dX6_first_1 : decode cX6_first 1 = .ok (.istore_n 2, 1) := by decide +kernel
theorem dX6_first_2 : decode cX6_first 2 = .ok (.iconst 0, 1) := by decide +kernel
theorem dX6_first_3 : decode cX6_first 3 = .ok (.istore_n 3, 1) := by decide +kernel
theorem dX6_first_4 : decode cX6_first 4 = .ok (.iload_n 3, 1) := by decide +kernel
theorem dX6_first_5 : decode cX6_first 5 = .ok (.aload_n 0, 1) := by decide +kernel
theorem dX6_first_6 : decode cX6_first 6 = .ok (.getfield 163, 3) := by decide +kernel
theorem dX6_first_9 : decode cX6_first 9 = .ok (.if_icmp .ge 44, 3) := by decide +kernel
theorem dX6_first_12 : decode cX6_first 12 = .ok (.aload_n 0, 1) := by decide +kernel
theorem dX6_first_13 : decode cX6_first 13 = .ok (.iload_n 3, 1) := by decide +kernel
theorem dX6_first_14 : decode cX6_first 14 = .ok (.iload_n 1, 1) := by decide +kernel
theorem dX6_first_15 : decode cX6_first 15 = .ok (.invokevirtual 235, 3) := by decide +kernel
theorem dX6_first_18 : decode cX6_first 18 = .ok (.ifCond .eq 27, 3) := by decide +kernel
theorem dX6_first_21 : decode cX6_first 21 = .ok (.iload_n 2, 1) := by decide +kernel
theorem dX6_first_22 : decode cX6_first 22 = .ok (.iconst (-1), 1) := by decide +kernel
theorem dX6_first_23 : decode cX6_first 23 = .ok (.if_icmp .eq 18, 3) := by decide +kernel
theorem dX6_first_26 : decode cX6_first 26 = .ok (.aload_n 0, 1) := by decide +kernel
theorem dX6_first_27 : decode cX6_first 27 = .ok (.getfield 32, 3) := by decide +kernel
theorem dX6_first_30 : decode cX6_first 30 = .ok (.iload_n 3, 1) := by decide +kernel
theorem dX6_first_31 : decode cX6_first 31 = .ok (.iaload, 1) := by decide +kernel
theorem dX6_first_32 : decode cX6_first 32 = .ok (.aload_n 0, 1) := by decide +kernel
theorem dX6_first_33 : decode cX6_first 33 = .ok (.getfield 32, 3) := by decide +kernel
theorem dX6_first_36 : decode cX6_first 36 = .ok (.iload_n 2, 1) := by decide +kernel
theorem dX6_first_37 : decode cX6_first 37 = .ok (.iaload, 1) := by decide +kernel
theorem dX6_first_38 : decode cX6_first 38 = .ok (.if_icmp .ge 7, 3) := by decide +kernel
theorem dX6_first_41 : decode cX6_first 41 = .ok (.iload_n 3, 1) := by decide +kernel
theorem dX6_first_42 : decode cX6_first 42 = .ok (.goto 4, 3) := by decide +kernel
theorem dX6_first_45 : decode cX6_first 45 = .ok (.iload_n 2, 1) := by decide +kernel
theorem dX6_first_46 : decode cX6_first 46 = .ok (.istore_n 2, 1) := by decide +kernel
theorem dX6_first_47 : decode cX6_first 47 = .ok (.iinc 3 1, 3) := by decide +kernel
theorem dX6_first_50 : decode cX6_first 50 = .ok (.goto (-46), 3) := by decide +kernel
theorem dX6_first_53 : decode cX6_first 53 = .ok (.iload_n 2, 1) := by decide +kernel
theorem dX6_first_54 : decode cX6_first 54 = .ok (.ireturn, 1) := by decide +kernel
set_option maxRecDepth 20000 in
theorem ggX6_due_X6_isDay : GoodIn wsX6_due wsX6_isDay := goodIn_r _ [13, 14, 15, 16, 12, 17] (by decide +kernel) (by decide +kernel)
set_option maxRecDepth 20000 in
theorem gX6_due_X6_isDay : GoodIn wsX6_due (va_wsS RX6 218 yX6_isDay wsX6_isDay) := goodIn_app (goodIn_of _ (by decide +kernel)) ggX6_due_X6_isDay
set_option maxRecDepth 20000 in
theorem ggX6_due_X6_first : GoodIn wsX6_due wsX6_first := goodIn_r _ [21, 9, 7, 22, 23, 24, 12, 25, 91, 92, 93, 94, 95, 96, 97, 98, 99, 100, 101, 102, 103, 104, 105, 106, 107, 108, 109, 110, 111, 112, 113, 114, 115, 116, 117, 118, 119, 120, 121, 122] (by decide +kernel) (by decide +kernel)
set_option maxRecDepth 20000 in
theorem gX6_due_X6_first : GoodIn wsX6_due (wsV RX6 241 RX6 yX6_first wsX6_first) := goodIn_app (goodIn_of _ (by decide +kernel)) ggX6_due_X6_first
set_option maxRecDepth 20000 in
theorem ggX6_due_X6_check : GoodIn wsX6_due wsX6_check := goodIn_r _ [29, 30, 31, 32, 33, 12, 34, 35, 36, 37, 38, 39, 40, 41, 42, 43, 44, 45, 46, 47, 48, 49, 50, 51, 52, 53, 54, 55, 56, 57, 58, 59, 60, 61, 62, 63, 64, 65, 66, 67, 68, 69, 70, 71, 72, 73, 74, 75, 76, 77, 78, 79, 80, 81, 82, 83, 84, 85, 86, 87, 88, 89, 90, 91, 92, 93, 94, 95, 96, 97, 98, 99, 100, 101, 102, 103, 104, 105, 106, 107, 108, 109, 110, 111, 112, 113, 114, 115, 116, 117, 118, 119, 120, 121, 122] (by decide +kernel) (by decide +kernel)
set_option maxRecDepth 20000 in
theorem gX6_due_X6_check : GoodIn wsX6_due (wsV RX6 231 RX6 yX6_check wsX6_check) := goodIn_app (goodIn_of _ (by decide +kernel)) ggX6_due_X6_check
set_option maxRecDepth 20000 in
theorem ggX6_due_X6_isDue : GoodIn wsX6_due wsX6_isDue := goodIn_r _ [25, 7, 91, 92, 93, 94, 95, 96, 97, 98, 99, 100, 101, 102, 103, 104, 105, 106, 107, 108, 109, 110, 111, 112, 113, 114, 115, 116, 117, 118, 119, 120, 121, 122] (by decide +kernel) (by decide +kernel)
set_option maxRecDepth 20000 in
theorem gX6_due_X6_isDue : GoodIn wsX6_due (wsV RX6 235 RX6 yX6_isDue wsX6_isDue) := goodIn_app (goodIn_of _ (by decide +kernel)) ggX6_due_X6_isDue
theorem dX6_due_0 : decode cX6_due 0 = .ok (.aload_n 0, 1) := by decide +kernel
theorem dX6_due_1 : decode cX6_due 1 = .ok (.iconst 0, 1) := by decide +kernel
theorem dX6_due_2 : decode cX6_due 2 = .ok (.putfield 160, 3) := by decide +kernel
theorem dX6_due_5 : decode cX6_due 5 = .ok (.iload_n 1, 1) := by decide +kernel
theorem dX6_due_6 : decode cX6_due 6 = .ok (.invokestatic 218, 3) := by decide +kernel
theorem dX6_due_9 : decode cX6_due 9 = .ok (.ifCond .ne 6, 3) := by decide +kernel
theorem dX6_due_12 : decode cX6_due 12 = .ok (.bipush (-2), 2) := by decide +kernel
theorem dX6_due_14 : decode cX6_due 14 = .ok (.ireturn, 1) := by decide +kernel
theorem dX6_due_15 : decode cX6_due 15 = .ok (.iload_n 1, 1) := by decide +kernel
theorem dX6_due_16 : decode cX6_due 16 = .ok (.aload_n 0, 1) := by decide +kernel
theorem dX6_due_17 : decode cX6_due 17 = .ok (.getfield 38, 3) := by decide +kernel
theorem dX6_due_20 : decode cX6_due 20 = .ok (.if_icmp .ge 6, 3) := by decide +kernel
theorem dX6_due_23 : decode cX6_due 23 = .ok (.bipush (-3), 2) := by decide +kernel
theorem dX6_due_25 : decode cX6_due 25 = .ok (.ireturn, 1) := by decide +kernel
theorem dX6_due_26 : decode cX6_due 26 = .ok (.aload_n 0, 1) := by decide +kernel
theorem dX6_due_27 : decode cX6_due 27 = .ok (.iload_n 1, 1) := by decide +kernel
theorem dX6_due_28 : decode cX6_due 28 = .ok (.putfield 38, 3) := by decide +kernel
theorem dX6_due_31 : decode cX6_due 31 = .ok (.aload_n 0, 1) := by decide +kernel
theorem dX6_due_32 : decode cX6_due 32 = .ok (.iconst 0, 1) := by decide +kernel
theorem dX6_due_33 : decode cX6_due 33 = .ok (.putfield 238, 3) := by decide +kernel
theorem dX6_due_36 : decode cX6_due 36 = .ok (.aload_n 0, 1) := by decide +kernel
theorem dX6_due_37 : decode cX6_due 37 = .ok (.getfield 238, 3) := by decide +kernel
theorem dX6_due_40 : decode cX6_due 40 = .ok (.aload_n 0, 1) := by decide +kernel
theorem dX6_due_41 : decode cX6_due 41 = .ok (.getfield 157, 3) := by decide +kernel
theorem dX6_due_44 : decode cX6_due 44 = .ok (.if_icmp .ge 89, 3) := by decide +kernel
theorem dX6_due_47 : decode cX6_due 47 = .ok (.aload_n 0, 1) := by decide +kernel
theorem dX6_due_48 : decode cX6_due 48 = .ok (.iload_n 1, 1) := by decide +kernel
theorem dX6_due_49 : decode cX6_due 49 = .ok (.invokevirtual 241, 3) := by decide +kernel
theorem dX6_due_52 : decode cX6_due 52 = .ok (.iconst (-1), 1) := by decide +kernel
theorem dX6_due_53 : decode cX6_due 53 = .ok (.if_icmp .eq 80, 3) := by decide +kernel
theorem dX6_due_56 : decode cX6_due 56 = .ok (.aload_n 0, 1) := by decide +kernel
theorem dX6_due_57 : decode cX6_due 57 = .ok (.iload_n 1, 1) := by decide +kernel
theorem dX6_due_58 : decode cX6_due 58 = .ok (.invokevirtual 241, 3) := by decide +kernel
theorem dX6_due_61 : decode cX6_due 61 = .ok (.istore_n 2, 1) := by decide +kernel
theorem dX6_due_62 : decode cX6_due 62 = .ok (.aload_n 0, 1) := by decide +kernel
theorem dX6_due_63 : decode cX6_due 63 = .ok (.getfield 42, 3) := by decide +kernel
theorem dX6_due_66 : decode cX6_due 66 = .ok (.aload_n 0, 1) := by decide +kernel
theorem dX6_due_67 : decode cX6_due 67 = .ok (.getfield 238, 3) := by decide +kernel
theorem dX6_due_70 : decode cX6_due 70 = .ok (.iload_n 2, 1) := by decide +kernel
theorem dX6_due_71 : decode cX6_due 71 = .ok (.iastore, 1) := by decide +kernel
theorem dX6_due_72 : decode cX6_due 72 = .ok (.aload_n 0, 1) := by decide +kernel
theorem dX6_due_73 : decode cX6_due 73 = .ok (.getfield 45, 3) := by decide +kernel
theorem dX6_due_76 : decode cX6_due 76 = .ok (.aload_n 0, 1) := by decide +kernel
theorem dX6_due_77 : decode cX6_due 77 = .ok (.getfield 238, 3) := by decide +kernel
theorem dX6_due_80 : decode cX6_due 80 = .ok (.aload_n 0, 1) := by decide +kernel
theorem dX6_due_81 : decode cX6_due 81 = .ok (.iload_n 2, 1) := by decide +kernel
theorem dX6_due_82 : decode cX6_due 82 = .ok (.iload_n 1, 1) := by decide +kernel
theorem dX6_due_83 : decode cX6_due 83 = .ok (.invokevirtual 231, 3) := by decide +kernel
theorem dX6_due_86 : decode cX6_due 86 = .ok (.bastore, 1) := by decide +kernel
theorem dX6_due_87 : decode cX6_due 87 = .ok (.aload_n 0, 1) := by decide +kernel
theorem dX6_due_88 : decode cX6_due 88 = .ok (.dup, 1) := by decide +kernel
theorem dX6_due_89 : decode cX6_due 89 = .ok (.getfield 238, 3) := by decide +kernel
theorem dX6_due_92 : decode cX6_due 92 = .ok (.iconst 1, 1) := by decide +kernel
theorem dX6_due_93 : decode cX6_due 93 = .ok (.iadd, 1) := by decide +kernel
theorem dX6_due_94 : decode cX6_due 94 = .ok (.putfield 238, 3) := by decide +kernel
theorem dX6_due_97 : decode cX6_due 97 = .ok (.aload_n 0, 1) := by decide +kernel
theorem dX6_due_98 : decode cX6_due 98 = .ok (.getfield 32, 3) := by decide +kernel
theorem dX6_due_101 : decode cX6_due 101 = .ok (.iload_n 2, 1) := by decide +kernel
theorem dX6_due_102 : decode cX6_due 102 = .ok (.dup2, 1) := by decide +kernel
theorem dX6_due_103 : decode cX6_due 103 = .ok (.iaload, 1) := by decide +kernel
theorem dX6_due_104 : decode cX6_due 104 = .ok (.aload_n 0, 1) := by decide +kernel
theorem dX6_due_105 : decode cX6_due 105 = .ok (.getfield 35, 3) := by decide +kernel
theorem dX6_due_108 : decode cX6_due 108 = .ok (.iload_n 2, 1) := by decide +kernel
theorem dX6_due_109 : decode cX6_due 109 = .ok (.iaload, 1) := by decide +kernel
theorem dX6_due_110 : decode cX6_due 110 = .ok (.iload_n 1, 1) := by decide +kernel
theorem dX6_due_111 : decode cX6_due 111 = .ok (.aload_n 0, 1) := by decide +kernel
theorem dX6_due_112 : decode cX6_due 112 = .ok (.getfield 32, 3) := by decide +kernel
theorem dX6_due_115 : decode cX6_due 115 = .ok (.iload_n 2, 1) := by decide +kernel
theorem dX6_due_116 : decode cX6_due 116 = .ok (.iaload, 1) := by decide +kernel
theorem dX6_due_117 : decode cX6_due 117 = .ok (.isub, 1) := by decide +kernel
theorem dX6_due_118 : decode cX6_due 118 = .ok (.aload_n 0, 1) := by decide +kernel
theorem dX6_due_119 : decode cX6_due 119 = .ok (.getfield 35, 3) := by decide +kernel
theorem dX6_due_122 : decode cX6_due 122 = .ok (.iload_n 2, 1) := by decide +kernel
theorem dX6_due_123 : decode cX6_due 123 = .ok (.iaload, 1) := by decide +kernel
theorem dX6_due_124 : decode cX6_due 124 = .ok (.idiv, 1) := by decide +kernel
theorem dX6_due_125 : decode cX6_due 125 = .ok (.iconst 1, 1) := by decide +kernel
theorem dX6_due_126 : decode cX6_due 126 = .ok (.iadd, 1) := by decide +kernel
theorem dX6_due_127 : decode cX6_due 127 = .ok (.imul, 1) := by decide +kernel
theorem dX6_due_128 : decode cX6_due 128 = .ok (.iadd, 1) := by decide +kernel
theorem dX6_due_129 : decode cX6_due 129 = .ok (.iastore, 1) := by decide +kernel
theorem dX6_due_130 : decode cX6_due 130 = .ok (.goto (-94), 3) := by decide +kernel
theorem dX6_due_133 : decode cX6_due 133 = .ok (.iconst 0, 1) := by decide +kernel
theorem dX6_due_134 : decode cX6_due 134 = .ok (.istore_n 2, 1) := by decide +kernel
theorem dX6_due_135 : decode cX6_due 135 = .ok (.iconst 0, 1) := by decide +kernel
theorem dX6_due_136 : decode cX6_due 136 = .ok (.istore_n 3, 1) := by decide +kernel
theorem dX6_due_137 : decode cX6_due 137 = .ok (.iload_n 3, 1) := by decide +kernel
theorem dX6_due_138 : decode cX6_due 138 = .ok (.aload_n 0, 1) := by decide +kernel
theorem dX6_due_139 : decode cX6_due 139 = .ok (.getfield 163, 3) := by decide +kernel
theorem dX6_due_142 : decode cX6_due 142 = .ok (.if_icmp .ge 26, 3) := by decide +kernel
theorem dX6_due_145 : decode cX6_due 145 = .ok (.iload_n 2, 1) := by decide +kernel
theorem dX6_due_146 : decode cX6_due 146 = .ok (.aload_n 0, 1) := by decide +kernel
theorem dX6_due_147 : decode cX6_due 147 = .ok (.iload_n 3, 1) := by decide +kernel
theorem dX6_due_148 : decode cX6_due 148 = .ok (.iload_n 1, 1) := by decide +kernel
theorem dX6_due_149 : decode cX6_due 149 = .ok (.invokevirtual 235, 3) := by decide +kernel
theorem dX6_due_152 : decode cX6_due 152 = .ok (.ifCond .eq 7, 3) := by decide +kernel
theorem dX6_due_155 : decode cX6_due 155 = .ok (.iconst 1, 1) := by decide +kernel
theorem dX6_due_156 : decode cX6_due 156 = .ok (.goto 4, 3) := by decide +kernel
theorem dX6_due_159 : decode cX6_due 159 = .ok (.iconst 0, 1) := by decide +kernel
theorem dX6_due_160 : decode cX6_due 160 = .ok (.iadd, 1) := by decide +kernel
theorem dX6_due_161 : decode cX6_due 161 = .ok (.istore_n 2, 1) := by decide +kernel
theorem dX6_due_162 : decode cX6_due 162 = .ok (.iinc 3 1, 3) := by decide +kernel
theorem dX6_due_165 : decode cX6_due 165 = .ok (.goto (-28), 3) := by decide +kernel
theorem dX6_due_168 : decode cX6_due 168 = .ok (.iload_n 2, 1) := by decide +kernel
theorem dX6_due_169 : decode cX6_due 169 = .ok (.ifCond .le 10, 3) := by decide +kernel
theorem dX6_due_172 : decode cX6_due 172 = .ok (.bipush (-10), 2) := by decide +kernel
theorem dX6_due_174 : decode cX6_due 174 = .ok (.iload_n 2, 1) := by decide +kernel
theorem dX6_due_175 : decode cX6_due 175 = .ok (.isub, 1) := by decide +kernel
theorem dX6_due_176 : decode cX6_due 176 = .ok (.goto 7, 3) := by decide +kernel
theorem dX6_due_179 : decode cX6_due 179 = .ok (.aload_n 0, 1) := by decide +kernel
theorem dX6_due_180 : decode cX6_due 180 = .ok (.getfield 238, 3) := by decide +kernel
theorem dX6_due_183 : decode cX6_due 183 = .ok (.ireturn, 1) := by decide +kernel
set_option maxRecDepth 20000 in
theorem ggX6_told_X6_in : GoodIn wsX6_told wsX6_in := goodIn_r _ [8] (by decide +kernel) (by decide +kernel)
set_option maxRecDepth 20000 in
theorem gX6_told_X6_in : GoodIn wsX6_told (va_wsS RX6 166 yX6_in wsX6_in) := goodIn_app (goodIn_of _ (by decide +kernel)) ggX6_told_X6_in
theorem dX6_told_0 : decode cX6_told 0 = .ok (.aload_n 0, 1) := by decide +kernel
theorem dX6_told_1 : decode cX6_told 1 = .ok (.iconst 0, 1) := by decide +kernel
theorem dX6_told_2 : decode cX6_told 2 = .ok (.putfield 160, 3) := by decide +kernel
theorem dX6_told_5 : decode cX6_told 5 = .ok (.iload_n 1, 1) := by decide +kernel
theorem dX6_told_6 : decode cX6_told 6 = .ok (.iconst 0, 1) := by decide +kernel
theorem dX6_told_7 : decode cX6_told 7 = .ok (.aload_n 0, 1) := by decide +kernel
theorem dX6_told_8 : decode cX6_told 8 = .ok (.getfield 238, 3) := by decide +kernel
theorem dX6_told_11 : decode cX6_told 11 = .ok (.iconst 1, 1) := by decide +kernel
theorem dX6_told_12 : decode cX6_told 12 = .ok (.isub, 1) := by decide +kernel
theorem dX6_told_13 : decode cX6_told 13 = .ok (.invokestatic 166, 3) := by decide +kernel
theorem dX6_told_16 : decode cX6_told 16 = .ok (.ifCond .eq 12, 3) := by decide +kernel
theorem dX6_told_19 : decode cX6_told 19 = .ok (.iload_n 2, 1) := by decide +kernel
theorem dX6_told_20 : decode cX6_told 20 = .ok (.iconst 0, 1) := by decide +kernel
theorem dX6_told_21 : decode cX6_told 21 = .ok (.iconst 1, 1) := by decide +kernel
theorem dX6_told_22 : decode cX6_told 22 = .ok (.invokestatic 166, 3) := by decide +kernel
theorem dX6_told_25 : decode cX6_told 25 = .ok (.ifCond .ne 7, 3) := by decide +kernel
theorem dX6_told_28 : decode cX6_told 28 = .ok (.iconst (-1), 1) := by decide +kernel
theorem dX6_told_29 : decode cX6_told 29 = .ok (.goto 30, 3) := by decide +kernel
theorem dX6_told_32 : decode cX6_told 32 = .ok (.iload_n 2, 1) := by decide +kernel
theorem dX6_told_33 : decode cX6_told 33 = .ok (.ifCond .ne 12, 3) := by decide +kernel
theorem dX6_told_36 : decode cX6_told 36 = .ok (.aload_n 0, 1) := by decide +kernel
theorem dX6_told_37 : decode cX6_told 37 = .ok (.getfield 42, 3) := by decide +kernel
theorem dX6_told_40 : decode cX6_told 40 = .ok (.iload_n 1, 1) := by decide +kernel
theorem dX6_told_41 : decode cX6_told 41 = .ok (.iaload, 1) := by decide +kernel
theorem dX6_told_42 : decode cX6_told 42 = .ok (.goto 17, 3) := by decide +kernel
theorem dX6_told_45 : decode cX6_told 45 = .ok (.aload_n 0, 1) := by decide +kernel
theorem dX6_told_46 : decode cX6_told 46 = .ok (.getfield 45, 3) := by decide +kernel
theorem dX6_told_49 : decode cX6_told 49 = .ok (.iload_n 1, 1) := by decide +kernel
theorem dX6_told_50 : decode cX6_told 50 = .ok (.baload, 1) := by decide +kernel
theorem dX6_told_51 : decode cX6_told 51 = .ok (.ifCond .eq 7, 3) := by decide +kernel
theorem dX6_told_54 : decode cX6_told 54 = .ok (.iconst 1, 1) := by decide +kernel
theorem dX6_told_55 : decode cX6_told 55 = .ok (.goto 4, 3) := by decide +kernel
theorem dX6_told_58 : decode cX6_told 58 = .ok (.iconst 0, 1) := by decide +kernel
theorem dX6_told_59 : decode cX6_told 59 = .ok (.ireturn, 1) := by decide +kernel
set_option maxRecDepth 20000 in
theorem ggX6_mend_X6_isFile : GoodIn wsX6_mend wsX6_isFile := goodIn_r _ [10, 2, 11, 12, 9, 13, 76, 77, 78, 79, 80, 81, 82, 83, 84, 85, 86, 87, 88, 89, 90, 91, 92, 93, 94, 95, 96, 97, 98, 99, 100, 101, 102, 103, 104, 105, 106, 107] (by decide +kernel) (by decide +kernel)
set_option maxRecDepth 20000 in
theorem gX6_mend_X6_isFile : GoodIn wsX6_mend (wsV RX6 225 RX6 yX6_isFile wsX6_isFile) := goodIn_app (goodIn_of _ (by decide +kernel)) ggX6_mend_X6_isFile
set_option maxRecDepth 20000 in
theorem ggX6_mend_X6_isDay : GoodIn wsX6_mend wsX6_isDay := goodIn_r _ [16, 17, 11, 12, 9, 13] (by decide +kernel) (by decide +kernel)
set_option maxRecDepth 20000 in
theorem gX6_mend_X6_isDay : GoodIn wsX6_mend (va_wsS RX6 218 yX6_isDay wsX6_isDay) := goodIn_app (goodIn_of _ (by decide +kernel)) ggX6_mend_X6_isDay
set_option maxRecDepth 20000 in
theorem ggX6_mend_X6_fits : GoodIn wsX6_mend wsX6_fits := goodIn_r _ [21, 22, 23, 24, 9, 25, 3, 26, 27, 4, 28, 29, 30, 31, 32, 33, 34, 35, 36, 37, 38, 39, 40, 41, 42, 43, 44, 45, 46, 47, 48, 49, 50, 51, 52, 53, 54, 55, 56, 57, 58, 76, 77, 78, 79, 80, 81, 82, 83, 84, 85, 86, 87, 88, 89, 90, 91, 92, 93, 94, 95, 96, 97, 98, 99, 100, 101, 102, 103, 104, 105, 106, 107] (by decide +kernel) (by decide +kernel)
set_option maxRecDepth 20000 in
theorem gX6_mend_X6_fits : GoodIn wsX6_mend (wsV RX6 228 RX6 yX6_fits wsX6_fits) := goodIn_app (goodIn_of _ (by decide +kernel)) ggX6_mend_X6_fits
set_option maxRecDepth 20000 in
theorem ggX6_mend_X6_has : GoodIn wsX6_mend wsX6_has := goodIn_r _ [31, 32, 33, 34, 35, 36, 37, 9, 38, 26, 27, 39, 40, 41, 42, 43, 44, 45, 46, 47, 48, 49, 50, 51, 52, 53, 54, 55, 56, 57, 58, 76, 77, 78, 79, 80, 81, 82, 83, 84, 85, 86, 87, 88, 89, 90, 91, 92, 93, 94, 95, 96, 97, 98, 99, 100, 101, 102, 103, 104, 105, 106, 107] (by decide +kernel) (by decide +kernel)
set_option maxRecDepth 20000 in
theorem gX6_mend_X6_has : GoodIn wsX6_mend (wsV RX6 196 RX6 yX6_has wsX6_has) := goodIn_app (goodIn_of _ (by decide +kernel)) ggX6_mend_X6_has
set_option maxRecDepth 20000 in
theorem ggX6_mend_X6_enter : GoodIn wsX6_mend wsX6_enter := goodIn_r _ [62, 63, 64, 65, 66, 67, 33, 68, 69, 70, 9, 71, 26, 27, 72, 73, 74, 75, 35, 36, 37, 38, 39, 40, 41, 42, 43, 44, 45, 46, 47, 48, 49, 50, 51, 52, 53, 76, 77, 78, 79, 80, 81, 82, 83, 84, 85, 86, 87, 88, 89, 90, 91, 92, 93, 94, 95, 96, 97, 98, 99, 100, 101, 102, 103, 104, 105, 106, 107] (by decide +kernel) (by decide +kernel)
set_option maxRecDepth 20000 in
theorem gX6_mend_X6_enter : GoodIn wsX6_mend (wsV RX6 221 RX6 yX6_enter wsX6_enter) := goodIn_app (goodIn_of _ (by decide +kernel)) ggX6_mend_X6_enter
theorem dX6_mend_0 : decode cX6_mend 0 = .ok (.aload_n 0, 1) := by decide +kernel
theorem dX6_mend_1 : decode cX6_mend 1 = .ok (.iconst 0, 1) := by decide +kernel
theorem dX6_mend_2 : decode cX6_mend 2 = .ok (.putfield 160, 3) := by decide +kernel
theorem dX6_mend_5 : decode cX6_mend 5 = .ok (.aload_n 0, 1) := by decide +kernel
theorem dX6_mend_6 : decode cX6_mend 6 = .ok (.iload_n 1, 1) := by decide +kernel
theorem dX6_mend_7 : decode cX6_mend 7 = .ok (.invokevirtual 225, 3) := by decide +kernel
theorem dX6_mend_10 : decode cX6_mend 10 = .ok (.ifCond .ne 5, 3) := by decide +kernel
theorem dX6_mend_13 : decode cX6_mend 13 = .ok (.iconst (-1), 1) := by decide +kernel
theorem dX6_mend_14 : decode cX6_mend 14 = .ok (.ireturn, 1) := by decide +kernel
theorem dX6_mend_15 : decode cX6_mend 15 = .ok (.iload_n 2, 1) := by decide +kernel
theorem dX6_mend_16 : decode cX6_mend 16 = .ok (.invokestatic 218, 3) := by decide +kernel
theorem dX6_mend_19 : decode cX6_mend 19 = .ok (.ifCond .ne 6, 3) := by decide +kernel
theorem dX6_mend_22 : decode cX6_mend 22 = .ok (.bipush (-2), 2) := by decide +kernel
theorem dX6_mend_24 : decode cX6_mend 24 = .ok (.ireturn, 1) := by decide +kernel
theorem dX6_mend_25 : decode cX6_mend 25 = .ok (.aload_n 0, 1) := by decide +kernel
theorem dX6_mend_26 : decode cX6_mend 26 = .ok (.iload_n 1, 1) := by decide +kernel
theorem dX6_mend_27 : decode cX6_mend 27 = .ok (.invokevirtual 228, 3) := by decide +kernel
theorem dX6_mend_30 : decode cX6_mend 30 = .ok (.ifCond .eq 6, 3) := by decide +kernel
theorem dX6_mend_33 : decode cX6_mend 33 = .ok (.bipush (-3), 2) := by decide +kernel
theorem dX6_mend_35 : decode cX6_mend 35 = .ok (.ireturn, 1) := by decide +kernel
theorem dX6_mend_36 : decode cX6_mend 36 = .ok (.iconst 0, 1) := by decide +kernel
theorem dX6_mend_37 : decode cX6_mend 37 = .ok (.istore_n 3, 1) := by decide +kernel
theorem dX6_mend_38 : decode cX6_mend 38 = .ok (.iload_n 3, 1) := by decide +kernel
theorem dX6_mend_39 : decode cX6_mend 39 = .ok (.aload_n 0, 1) := by decide +kernel
theorem dX6_mend_40 : decode cX6_mend 40 = .ok (.getfield 163, 3) := by decide +kernel
theorem dX6_mend_43 : decode cX6_mend 43 = .ok (.if_icmp .ge 110, 3) := by decide +kernel
theorem dX6_mend_46 : decode cX6_mend 46 = .ok (.iload_n 3, 1) := by decide +kernel
theorem dX6_mend_47 : decode cX6_mend 47 = .ok (.iload_n 1, 1) := by decide +kernel
theorem dX6_mend_48 : decode cX6_mend 48 = .ok (.if_icmp .eq 99, 3) := by decide +kernel
theorem dX6_mend_51 : decode cX6_mend 51 = .ok (.aload_n 0, 1) := by decide +kernel
theorem dX6_mend_52 : decode cX6_mend 52 = .ok (.iload_n 3, 1) := by decide +kernel
theorem dX6_mend_53 : decode cX6_mend 53 = .ok (.invokevirtual 228, 3) := by decide +kernel
theorem dX6_mend_56 : decode cX6_mend 56 = .ok (.ifCond .eq 91, 3) := by decide +kernel
theorem dX6_mend_59 : decode cX6_mend 59 = .ok (.aload_n 0, 1) := by decide +kernel
theorem dX6_mend_60 : decode cX6_mend 60 = .ok (.iload_n 1, 1) := by decide +kernel
theorem dX6_mend_61 : decode cX6_mend 61 = .ok (.invokevirtual 196, 3) := by decide +kernel
theorem dX6_mend_64 : decode cX6_mend 64 = .ok (.ifCond .ne 6, 3) := by decide +kernel
theorem dX6_mend_67 : decode cX6_mend 67 = .ok (.goto 80, 3) := by decide +kernel
theorem dX6_mend_70 : decode cX6_mend 70 = .ok (.aload_n 0, 1) := by decide +kernel
theorem dX6_mend_71 : decode cX6_mend 71 = .ok (.getfield 16, 3) := by decide +kernel
theorem dX6_mend_74 : decode cX6_mend 74 = .ok (.iload_n 1, 1) := by decide +kernel
theorem dX6_mend_75 : decode cX6_mend 75 = .ok (.aload_n 0, 1) := by decide +kernel
theorem dX6_mend_76 : decode cX6_mend 76 = .ok (.getfield 16, 3) := by decide +kernel
theorem dX6_mend_79 : decode cX6_mend 79 = .ok (.iload_n 3, 1) := by decide +kernel
theorem dX6_mend_80 : decode cX6_mend 80 = .ok (.iaload, 1) := by decide +kernel
theorem dX6_mend_81 : decode cX6_mend 81 = .ok (.iastore, 1) := by decide +kernel
theorem dX6_mend_82 : decode cX6_mend 82 = .ok (.iconst 0, 1) := by decide +kernel
theorem dX6_mend_83 : decode cX6_mend 83 = .ok (.istore 4, 2) := by decide +kernel
theorem dX6_mend_85 : decode cX6_mend 85 = .ok (.iload 4, 2) := by decide +kernel
theorem dX6_mend_87 : decode cX6_mend 87 = .ok (.aload_n 0, 1) := by decide +kernel
theorem dX6_mend_88 : decode cX6_mend 88 = .ok (.getfield 16, 3) := by decide +kernel
theorem dX6_mend_91 : decode cX6_mend 91 = .ok (.iload_n 3, 1) := by decide +kernel
theorem dX6_mend_92 : decode cX6_mend 92 = .ok (.iaload, 1) := by decide +kernel
theorem dX6_mend_93 : decode cX6_mend 93 = .ok (.if_icmp .ge 35, 3) := by decide +kernel
theorem dX6_mend_96 : decode cX6_mend 96 = .ok (.aload_n 0, 1) := by decide +kernel
theorem dX6_mend_97 : decode cX6_mend 97 = .ok (.getfield 13, 3) := by decide +kernel
theorem dX6_mend_100 : decode cX6_mend 100 = .ok (.sipush 200, 3) := by decide +kernel
theorem dX6_mend_103 : decode cX6_mend 103 = .ok (.iload_n 1, 1) := by decide +kernel
theorem dX6_mend_104 : decode cX6_mend 104 = .ok (.imul, 1) := by decide +kernel
theorem dX6_mend_105 : decode cX6_mend 105 = .ok (.iload 4, 2) := by decide +kernel
theorem dX6_mend_107 : decode cX6_mend 107 = .ok (.iadd, 1) := by decide +kernel
theorem dX6_mend_108 : decode cX6_mend 108 = .ok (.aload_n 0, 1) := by decide +kernel
theorem dX6_mend_109 : decode cX6_mend 109 = .ok (.getfield 13, 3) := by decide +kernel
theorem dX6_mend_112 : decode cX6_mend 112 = .ok (.sipush 200, 3) := by decide +kernel
theorem dX6_mend_115 : decode cX6_mend 115 = .ok (.iload_n 3, 1) := by decide +kernel
theorem dX6_mend_116 : decode cX6_mend 116 = .ok (.imul, 1) := by decide +kernel
theorem dX6_mend_117 : decode cX6_mend 117 = .ok (.iload 4, 2) := by decide +kernel
theorem dX6_mend_119 : decode cX6_mend 119 = .ok (.iadd, 1) := by decide +kernel
theorem dX6_mend_120 : decode cX6_mend 120 = .ok (.baload, 1) := by decide +kernel
theorem dX6_mend_121 : decode cX6_mend 121 = .ok (.bastore, 1) := by decide +kernel
theorem dX6_mend_122 : decode cX6_mend 122 = .ok (.iinc 4 1, 3) := by decide +kernel
theorem dX6_mend_125 : decode cX6_mend 125 = .ok (.goto (-40), 3) := by decide +kernel
theorem dX6_mend_128 : decode cX6_mend 128 = .ok (.aload_n 0, 1) := by decide +kernel
theorem dX6_mend_129 : decode cX6_mend 129 = .ok (.getfield 29, 3) := by decide +kernel
theorem dX6_mend_132 : decode cX6_mend 132 = .ok (.iload_n 1, 1) := by decide +kernel
theorem dX6_mend_133 : decode cX6_mend 133 = .ok (.dup2, 1) := by decide +kernel
theorem dX6_mend_134 : decode cX6_mend 134 = .ok (.iaload, 1) := by decide +kernel
theorem dX6_mend_135 : decode cX6_mend 135 = .ok (.iconst 1, 1) := by decide +kernel
theorem dX6_mend_136 : decode cX6_mend 136 = .ok (.iadd, 1) := by decide +kernel
theorem dX6_mend_137 : decode cX6_mend 137 = .ok (.iastore, 1) := by decide +kernel
theorem dX6_mend_138 : decode cX6_mend 138 = .ok (.aload_n 0, 1) := by decide +kernel
theorem dX6_mend_139 : decode cX6_mend 139 = .ok (.iconst 3, 1) := by decide +kernel
theorem dX6_mend_140 : decode cX6_mend 140 = .ok (.iload_n 1, 1) := by decide +kernel
theorem dX6_mend_141 : decode cX6_mend 141 = .ok (.iload_n 2, 1) := by decide +kernel
theorem dX6_mend_142 : decode cX6_mend 142 = .ok (.invokevirtual 221, 3) := by decide +kernel
theorem dX6_mend_145 : decode cX6_mend 145 = .ok (.iload_n 3, 1) := by decide +kernel
theorem dX6_mend_146 : decode cX6_mend 146 = .ok (.ireturn, 1) := by decide +kernel
theorem dX6_mend_147 : decode cX6_mend 147 = .ok (.iinc 3 1, 3) := by decide +kernel
theorem dX6_mend_150 : decode cX6_mend 150 = .ok (.goto (-112), 3) := by decide +kernel
theorem dX6_mend_153 : decode cX6_mend 153 = .ok (.bipush (-10), 2) := by decide +kernel
theorem dX6_mend_155 : decode cX6_mend 155 = .ok (.ireturn, 1) := by decide +kernel
set_option maxRecDepth 20000 in
theorem ggX6_about_X6_isFile : GoodIn wsX6_about wsX6_isFile := goodIn_r _ [10, 11, 12, 13, 9, 14, 15, 16, 17, 18, 19, 20, 21, 22, 23, 24, 25, 26, 27, 28, 29, 30, 31, 32, 33, 34, 35, 36, 37, 38, 39, 40, 41, 42, 43, 44, 45, 46] (by decide +kernel) (by decide +kernel)
set_option maxRecDepth 20000 in
theorem gX6_about_X6_isFile : GoodIn wsX6_about (wsV RX6 225 RX6 yX6_isFile wsX6_isFile) := goodIn_app (goodIn_of _ (by decide +kernel)) ggX6_about_X6_isFile
theorem dX6_about_0 : decode cX6_about 0 = .ok (.aload_n 0, 1) := by decide +kernel
theorem dX6_about_1 : decode cX6_about 1 = .ok (.iconst 0, 1) := by decide +kernel
theorem dX6_about_2 : decode cX6_about 2 = .ok (.putfield 160, 3) := by decide +kernel
theorem dX6_about_5 : decode cX6_about 5 = .ok (.aload_n 0, 1) := by decide +kernel
theorem dX6_about_6 : decode cX6_about 6 = .ok (.iload_n 1, 1) := by decide +kernel
theorem dX6_about_7 : decode cX6_about 7 = .ok (.invokevirtual 225, 3) := by decide +kernel
theorem dX6_about_10 : decode cX6_about 10 = .ok (.ifCond .ne 5, 3) := by decide +kernel
theorem dX6_about_13 : decode cX6_about 13 = .ok (.iconst (-1), 1) := by decide +kernel
theorem dX6_about_14 : decode cX6_about 14 = .ok (.ireturn, 1) := by decide +kernel
theorem dX6_about_15 : decode cX6_about 15 = .ok (.iload_n 2, 1) := by decide +kernel
theorem dX6_about_16 : decode cX6_about 16 = .ok (.tableswitch 60 0 3 #[32, 39, 46, 53], 32) := by decide +kernel
theorem dX6_about_48 : decode cX6_about 48 = .ok (.aload_n 0, 1) := by decide +kernel
theorem dX6_about_49 : decode cX6_about 49 = .ok (.getfield 16, 3) := by decide +kernel
theorem dX6_about_52 : decode cX6_about 52 = .ok (.iload_n 1, 1) := by decide +kernel
theorem dX6_about_53 : decode cX6_about 53 = .ok (.iaload, 1) := by decide +kernel
theorem dX6_about_54 : decode cX6_about 54 = .ok (.ireturn, 1) := by decide +kernel
theorem dX6_about_55 : decode cX6_about 55 = .ok (.aload_n 0, 1) := by decide +kernel
theorem dX6_about_56 : decode cX6_about 56 = .ok (.getfield 26, 3) := by decide +kernel
theorem dX6_about_59 : decode cX6_about 59 = .ok (.iload_n 1, 1) := by decide +kernel
theorem dX6_about_60 : decode cX6_about 60 = .ok (.iaload, 1) := by decide +kernel
theorem dX6_about_61 : decode cX6_about 61 = .ok (.ireturn, 1) := by decide +kernel
theorem dX6_about_62 : decode cX6_about 62 = .ok (.aload_n 0, 1) := by decide +kernel
theorem dX6_about_63 : decode cX6_about 63 = .ok (.getfield 32, 3) := by decide +kernel
theorem dX6_about_66 : decode cX6_about 66 = .ok (.iload_n 1, 1) := by decide +kernel
theorem dX6_about_67 : decode cX6_about 67 = .ok (.iaload, 1) := by decide +kernel
theorem dX6_about_68 : decode cX6_about 68 = .ok (.ireturn, 1) := by decide +kernel
theorem dX6_about_69 : decode cX6_about 69 = .ok (.aload_n 0, 1) := by decide +kernel
theorem dX6_about_70 : decode cX6_about 70 = .ok (.getfield 29, 3) := by decide +kernel
theorem dX6_about_73 : decode cX6_about 73 = .ok (.iload_n 1, 1) := by decide +kernel
theorem dX6_about_74 : decode cX6_about 74 = .ok (.iaload, 1) := by decide +kernel
theorem dX6_about_75 : decode cX6_about 75 = .ok (.ireturn, 1) := by decide +kernel
theorem dX6_about_76 : decode cX6_about 76 = .ok (.iconst (-1), 1) := by decide +kernel
theorem dX6_about_77 : decode cX6_about 77 = .ok (.ireturn, 1) := by decide +kernel
set_option maxRecDepth 20000 in
theorem ggX6_row_X6_in : GoodIn wsX6_row wsX6_in := goodIn_r _ [10] (by decide +kernel) (by decide +kernel)
set_option maxRecDepth 20000 in
theorem gX6_row_X6_in : GoodIn wsX6_row (va_wsS RX6 166 yX6_in wsX6_in) := goodIn_app (goodIn_of _ (by decide +kernel)) ggX6_row_X6_in
theorem dX6_row_0 : decode cX6_row 0 = .ok (.aload_n 0, 1) := by decide +kernel
theorem dX6_row_1 : decode cX6_row 1 = .ok (.iconst 0, 1) := by decide +kernel
theorem dX6_row_2 : decode cX6_row 2 = .ok (.putfield 160, 3) := by decide +kernel
theorem dX6_row_5 : decode cX6_row 5 = .ok (.iload_n 1, 1) := by decide +kernel
theorem dX6_row_6 : decode cX6_row 6 = .ok (.iconst 0, 1) := by decide +kernel
theorem dX6_row_7 : decode cX6_row 7 = .ok (.aload_n 0, 1) := by decide +kernel
theorem dX6_row_8 : decode cX6_row 8 = .ok (.getfield 203, 3) := by decide +kernel
theorem dX6_row_11 : decode cX6_row 11 = .ok (.iconst 1, 1) := by decide +kernel
theorem dX6_row_12 : decode cX6_row 12 = .ok (.isub, 1) := by decide +kernel
theorem dX6_row_13 : decode cX6_row 13 = .ok (.invokestatic 166, 3) := by decide +kernel
theorem dX6_row_16 : decode cX6_row 16 = .ok (.ifCond .ne 5, 3) := by decide +kernel
theorem dX6_row_19 : decode cX6_row 19 = .ok (.iconst (-1), 1) := by decide +kernel
theorem dX6_row_20 : decode cX6_row 20 = .ok (.ireturn, 1) := by decide +kernel
theorem dX6_row_21 : decode cX6_row 21 = .ok (.iload_n 2, 1) := by decide +kernel
theorem dX6_row_22 : decode cX6_row 22 = .ok (.tableswitch 92 0 3 #[30, 37, 44, 51], 30) := by decide +kernel
theorem dX6_row_52 : decode cX6_row 52 = .ok (.aload_n 0, 1) := by decide +kernel
theorem dX6_row_53 : decode cX6_row 53 = .ok (.getfield 49, 3) := by decide +kernel
theorem dX6_row_56 : decode cX6_row 56 = .ok (.iload_n 1, 1) := by decide +kernel
theorem dX6_row_57 : decode cX6_row 57 = .ok (.iaload, 1) := by decide +kernel
theorem dX6_row_58 : decode cX6_row 58 = .ok (.ireturn, 1) := by decide +kernel
theorem dX6_row_59 : decode cX6_row 59 = .ok (.aload_n 0, 1) := by decide +kernel
theorem dX6_row_60 : decode cX6_row 60 = .ok (.getfield 52, 3) := by decide +kernel
theorem dX6_row_63 : decode cX6_row 63 = .ok (.iload_n 1, 1) := by decide +kernel
theorem dX6_row_64 : decode cX6_row 64 = .ok (.iaload, 1) := by decide +kernel
theorem dX6_row_65 : decode cX6_row 65 = .ok (.ireturn, 1) := by decide +kernel
theorem dX6_row_66 : decode cX6_row 66 = .ok (.aload_n 0, 1) := by decide +kernel
theorem dX6_row_67 : decode cX6_row 67 = .ok (.getfield 55, 3) := by decide +kernel
theorem dX6_row_70 : decode cX6_row 70 = .ok (.iload_n 1, 1) := by decide +kernel
theorem dX6_row_71 : decode cX6_row 71 = .ok (.iaload, 1) := by decide +kernel
theorem dX6_row_72 : decode cX6_row 72 = .ok (.ireturn, 1) := by decide +kernel
theorem dX6_row_73 : decode cX6_row 73 = .ok (.iconst 0, 1) := by decide +kernel
theorem dX6_row_74 : decode cX6_row 74 = .ok (.istore_n 3, 1) := by decide +kernel
theorem dX6_row_75 : decode cX6_row 75 = .ok (.iconst 0, 1) := by decide +kernel
theorem dX6_row_76 : decode cX6_row 76 = .ok (.istore 4, 2) := by decide +kernel
theorem dX6_row_78 : decode cX6_row 78 = .ok (.iload 4, 2) := by decide +kernel
theorem dX6_row_80 : decode cX6_row 80 = .ok (.iconst 4, 1) := by decide +kernel
theorem dX6_row_81 : decode cX6_row 81 = .ok (.if_icmp .ge 31, 3) := by decide +kernel
theorem dX6_row_84 : decode cX6_row 84 = .ok (.iload_n 3, 1) := by decide +kernel
theorem dX6_row_85 : decode cX6_row 85 = .ok (.bipush 8, 2) := by decide +kernel
theorem dX6_row_87 : decode cX6_row 87 = .ok (.ishl, 1) := by decide +kernel
theorem dX6_row_88 : decode cX6_row 88 = .ok (.aload_n 0, 1) := by decide +kernel
theorem dX6_row_89 : decode cX6_row 89 = .ok (.getfield 58, 3) := by decide +kernel
theorem dX6_row_92 : decode cX6_row 92 = .ok (.bipush 32, 2) := by decide +kernel
theorem dX6_row_94 : decode cX6_row 94 = .ok (.iload_n 1, 1) := by decide +kernel
theorem dX6_row_95 : decode cX6_row 95 = .ok (.imul, 1) := by decide +kernel
theorem dX6_row_96 : decode cX6_row 96 = .ok (.iload 4, 2) := by decide +kernel
theorem dX6_row_98 : decode cX6_row 98 = .ok (.iadd, 1) := by decide +kernel
theorem dX6_row_99 : decode cX6_row 99 = .ok (.baload, 1) := by decide +kernel
theorem dX6_row_100 : decode cX6_row 100 = .ok (.sipush 255, 3) := by decide +kernel
theorem dX6_row_103 : decode cX6_row 103 = .ok (.iand, 1) := by decide +kernel
theorem dX6_row_104 : decode cX6_row 104 = .ok (.ior, 1) := by decide +kernel
theorem dX6_row_105 : decode cX6_row 105 = .ok (.istore_n 3, 1) := by decide +kernel
theorem dX6_row_106 : decode cX6_row 106 = .ok (.iinc 4 1, 3) := by decide +kernel
theorem dX6_row_109 : decode cX6_row 109 = .ok (.goto (-31), 3) := by decide +kernel
theorem dX6_row_112 : decode cX6_row 112 = .ok (.iload_n 3, 1) := by decide +kernel
theorem dX6_row_113 : decode cX6_row 113 = .ok (.ireturn, 1) := by decide +kernel
theorem dX6_row_114 : decode cX6_row 114 = .ok (.iconst (-1), 1) := by decide +kernel
theorem dX6_row_115 : decode cX6_row 115 = .ok (.ireturn, 1) := by decide +kernel
set_option maxRecDepth 20000 in
theorem ggX6_spoil_X6_in : GoodIn wsX6_spoil wsX6_in := goodIn_r _ [10] (by decide +kernel) (by decide +kernel)
set_option maxRecDepth 20000 in
theorem gX6_spoil_X6_in : GoodIn wsX6_spoil (va_wsS RX6 166 yX6_in wsX6_in) := goodIn_app (goodIn_of _ (by decide +kernel)) ggX6_spoil_X6_in
theorem dX6_spoil_0 : decode cX6_spoil 0 = .ok (.aload_n 0, 1) := by decide +kernel
theorem dX6_spoil_1 : decode cX6_spoil 1 = .ok (.iconst 0, 1) := by decide +kernel
theorem dX6_spoil_2 : decode cX6_spoil 2 = .ok (.putfield 160, 3) := by decide +kernel
theorem dX6_spoil_5 : decode cX6_spoil 5 = .ok (.iload_n 1, 1) := by decide +kernel
theorem dX6_spoil_6 : decode cX6_spoil 6 = .ok (.iconst 0, 1) := by decide +kernel
theorem dX6_spoil_7 : decode cX6_spoil 7 = .ok (.aload_n 0, 1) := by decide +kernel
theorem dX6_spoil_8 : decode cX6_spoil 8 = .ok (.getfield 203, 3) := by decide +kernel
theorem dX6_spoil_11 : decode cX6_spoil 11 = .ok (.iconst 1, 1) := by decide +kernel
theorem dX6_spoil_12 : decode cX6_spoil 12 = .ok (.isub, 1) := by decide +kernel
theorem dX6_spoil_13 : decode cX6_spoil 13 = .ok (.invokestatic 166, 3) := by decide +kernel
theorem dX6_spoil_16 : decode cX6_spoil 16 = .ok (.ifCond .ne 5, 3) := by decide +kernel
theorem dX6_spoil_19 : decode cX6_spoil 19 = .ok (.iconst (-1), 1) := by decide +kernel
theorem dX6_spoil_20 : decode cX6_spoil 20 = .ok (.ireturn, 1) := by decide +kernel
theorem dX6_spoil_21 : decode cX6_spoil 21 = .ok (.iload_n 2, 1) := by decide +kernel
theorem dX6_spoil_22 : decode cX6_spoil 22 = .ok (.ifCond .eq 15, 3) := by decide +kernel
theorem dX6_spoil_25 : decode cX6_spoil 25 = .ok (.aload_n 0, 1) := by decide +kernel
theorem dX6_spoil_26 : decode cX6_spoil 26 = .ok (.getfield 55, 3) := by decide +kernel
theorem dX6_spoil_29 : decode cX6_spoil 29 = .ok (.iload_n 1, 1) := by decide +kernel
theorem dX6_spoil_30 : decode cX6_spoil 30 = .ok (.dup2, 1) := by decide +kernel
theorem dX6_spoil_31 : decode cX6_spoil 31 = .ok (.iaload, 1) := by decide +kernel
theorem dX6_spoil_32 : decode cX6_spoil 32 = .ok (.iload_n 2, 1) := by decide +kernel
theorem dX6_spoil_33 : decode cX6_spoil 33 = .ok (.ixor, 1) := by decide +kernel
theorem dX6_spoil_34 : decode cX6_spoil 34 = .ok (.iastore, 1) := by decide +kernel
theorem dX6_spoil_35 : decode cX6_spoil 35 = .ok (.iconst 1, 1) := by decide +kernel
theorem dX6_spoil_36 : decode cX6_spoil 36 = .ok (.ireturn, 1) := by decide +kernel
theorem dX6_spoil_37 : decode cX6_spoil 37 = .ok (.aload_n 0, 1) := by decide +kernel
theorem dX6_spoil_38 : decode cX6_spoil 38 = .ok (.dup, 1) := by decide +kernel
theorem dX6_spoil_39 : decode cX6_spoil 39 = .ok (.getfield 203, 3) := by decide +kernel
theorem dX6_spoil_42 : decode cX6_spoil 42 = .ok (.iconst 1, 1) := by decide +kernel
theorem dX6_spoil_43 : decode cX6_spoil 43 = .ok (.isub, 1) := by decide +kernel
theorem dX6_spoil_44 : decode cX6_spoil 44 = .ok (.putfield 203, 3) := by decide +kernel
theorem dX6_spoil_47 : decode cX6_spoil 47 = .ok (.iload_n 1, 1) := by decide +kernel
theorem dX6_spoil_48 : decode cX6_spoil 48 = .ok (.istore_n 3, 1) := by decide +kernel
theorem dX6_spoil_49 : decode cX6_spoil 49 = .ok (.iload_n 3, 1) := by decide +kernel
theorem dX6_spoil_50 : decode cX6_spoil 50 = .ok (.aload_n 0, 1) := by decide +kernel
theorem dX6_spoil_51 : decode cX6_spoil 51 = .ok (.getfield 203, 3) := by decide +kernel
theorem dX6_spoil_54 : decode cX6_spoil 54 = .ok (.if_icmp .ge 94, 3) := by decide +kernel
theorem dX6_spoil_57 : decode cX6_spoil 57 = .ok (.aload_n 0, 1) := by decide +kernel
theorem dX6_spoil_58 : decode cX6_spoil 58 = .ok (.getfield 49, 3) := by decide +kernel
theorem dX6_spoil_61 : decode cX6_spoil 61 = .ok (.iload_n 3, 1) := by decide +kernel
theorem dX6_spoil_62 : decode cX6_spoil 62 = .ok (.aload_n 0, 1) := by decide +kernel
theorem dX6_spoil_63 : decode cX6_spoil 63 = .ok (.getfield 49, 3) := by decide +kernel
theorem dX6_spoil_66 : decode cX6_spoil 66 = .ok (.iload_n 3, 1) := by decide +kernel
theorem dX6_spoil_67 : decode cX6_spoil 67 = .ok (.iconst 1, 1) := by decide +kernel
theorem dX6_spoil_68 : decode cX6_spoil 68 = .ok (.iadd, 1) := by decide +kernel
theorem dX6_spoil_69 : decode cX6_spoil 69 = .ok (.iaload, 1) := by decide +kernel
theorem dX6_spoil_70 : decode cX6_spoil 70 = .ok (.iastore, 1) := by decide +kernel
theorem dX6_spoil_71 : decode cX6_spoil 71 = .ok (.aload_n 0, 1) := by decide +kernel
theorem dX6_spoil_72 : decode cX6_spoil 72 = .ok (.getfield 52, 3) := by decide +kernel
theorem dX6_spoil_75 : decode cX6_spoil 75 = .ok (.iload_n 3, 1) := by decide +kernel
theorem dX6_spoil_76 : decode cX6_spoil 76 = .ok (.aload_n 0, 1) := by decide +kernel
theorem dX6_spoil_77 : decode cX6_spoil 77 = .ok (.getfield 52, 3) := by decide +kernel
theorem dX6_spoil_80 : decode cX6_spoil 80 = .ok (.iload_n 3, 1) := by decide +kernel
theorem dX6_spoil_81 : decode cX6_spoil 81 = .ok (.iconst 1, 1) := by decide +kernel
theorem dX6_spoil_82 : decode cX6_spoil 82 = .ok (.iadd, 1) := by decide +kernel
theorem dX6_spoil_83 : decode cX6_spoil 83 = .ok (.iaload, 1) := by decide +kernel
theorem dX6_spoil_84 : decode cX6_spoil 84 = .ok (.iastore, 1) := by decide +kernel
theorem dX6_spoil_85 : decode cX6_spoil 85 = .ok (.aload_n 0, 1) := by decide +kernel
theorem dX6_spoil_86 : decode cX6_spoil 86 = .ok (.getfield 55, 3) := by decide +kernel
theorem dX6_spoil_89 : decode cX6_spoil 89 = .ok (.iload_n 3, 1) := by decide +kernel
theorem dX6_spoil_90 : decode cX6_spoil 90 = .ok (.aload_n 0, 1) := by decide +kernel
theorem dX6_spoil_91 : decode cX6_spoil 91 = .ok (.getfield 55, 3) := by decide +kernel
theorem dX6_spoil_94 : decode cX6_spoil 94 = .ok (.iload_n 3, 1) := by decide +kernel
theorem dX6_spoil_95 : decode cX6_spoil 95 = .ok (.iconst 1, 1) := by decide +kernel
theorem dX6_spoil_96 : decode cX6_spoil 96 = .ok (.iadd, 1) := by decide +kernel
theorem dX6_spoil_97 : decode cX6_spoil 97 = .ok (.iaload, 1) := by decide +kernel
theorem dX6_spoil_98 : decode cX6_spoil 98 = .ok (.iastore, 1) := by decide +kernel
theorem dX6_spoil_99 : decode cX6_spoil 99 = .ok (.iconst 0, 1) := by decide +kernel
theorem dX6_spoil_100 : decode cX6_spoil 100 = .ok (.istore 4, 2) := by decide +kernel
theorem dX6_spoil_102 : decode cX6_spoil 102 = .ok (.iload 4, 2) := by decide +kernel
theorem dX6_spoil_104 : decode cX6_spoil 104 = .ok (.bipush 32, 2) := by decide +kernel
theorem dX6_spoil_106 : decode cX6_spoil 106 = .ok (.if_icmp .ge 36, 3) := by decide +kernel
theorem dX6_spoil_109 : decode cX6_spoil 109 = .ok (.aload_n 0, 1) := by decide +kernel
theorem dX6_spoil_110 : decode cX6_spoil 110 = .ok (.getfield 58, 3) := by decide +kernel
theorem dX6_spoil_113 : decode cX6_spoil 113 = .ok (.bipush 32, 2) := by decide +kernel
theorem dX6_spoil_115 : decode cX6_spoil 115 = .ok (.iload_n 3, 1) := by decide +kernel
theorem dX6_spoil_116 : decode cX6_spoil 116 = .ok (.imul, 1) := by decide +kernel
theorem dX6_spoil_117 : decode cX6_spoil 117 = .ok (.iload 4, 2) := by decide +kernel
theorem dX6_spoil_119 : decode cX6_spoil 119 = .ok (.iadd, 1) := by decide +kernel
theorem dX6_spoil_120 : decode cX6_spoil 120 = .ok (.aload_n 0, 1) := by decide +kernel
theorem dX6_spoil_121 : decode cX6_spoil 121 = .ok (.getfield 58, 3) := by decide +kernel
theorem dX6_spoil_124 : decode cX6_spoil 124 = .ok (.bipush 32, 2) := by decide +kernel
theorem dX6_spoil_126 : decode cX6_spoil 126 = .ok (.iload_n 3, 1) := by decide +kernel
theorem dX6_spoil_127 : decode cX6_spoil 127 = .ok (.imul, 1) := by decide +kernel
theorem dX6_spoil_128 : decode cX6_spoil 128 = .ok (.bipush 32, 2) := by decide +kernel
theorem dX6_spoil_130 : decode cX6_spoil 130 = .ok (.iadd, 1) := by decide +kernel
theorem dX6_spoil_131 : decode cX6_spoil 131 = .ok (.iload 4, 2) := by decide +kernel
theorem dX6_spoil_133 : decode cX6_spoil 133 = .ok (.iadd, 1) := by decide +kernel
theorem dX6_spoil_134 : decode cX6_spoil 134 = .ok (.baload, 1) := by decide +kernel
theorem dX6_spoil_135 : decode cX6_spoil 135 = .ok (.bastore, 1) := by decide +kernel
theorem dX6_spoil_136 : decode cX6_spoil 136 = .ok (.iinc 4 1, 3) := by decide +kernel
theorem dX6_spoil_139 : decode cX6_spoil 139 = .ok (.goto (-37), 3) := by decide +kernel
theorem dX6_spoil_142 : decode cX6_spoil 142 = .ok (.iinc 3 1, 3) := by decide +kernel
theorem dX6_spoil_145 : decode cX6_spoil 145 = .ok (.goto (-96), 3) := by decide +kernel
theorem dX6_spoil_148 : decode cX6_spoil 148 = .ok (.iconst 0, 1) := by decide +kernel
theorem dX6_spoil_149 : decode cX6_spoil 149 = .ok (.ireturn, 1) := by decide +kernel
set_option maxRecDepth 20000 in
theorem ggX6_chain_X6_chained : GoodIn wsX6_chain wsX6_chained := goodIn_r _ [9, 10, 11, 4, 12, 13, 14, 15, 16, 17, 8, 18, 19, 20, 21, 22, 23, 24, 3, 25, 26, 27, 28, 29, 30, 31, 32, 33, 34, 35, 36, 37, 38, 39, 40, 41, 42, 43, 44, 45, 46, 47, 48, 49, 50, 51, 52, 53, 54, 55, 56, 57, 58, 59, 60, 61, 62, 63, 64, 65, 66, 67, 68, 69] (by decide +kernel) (by decide +kernel)
set_option maxRecDepth 20000 in
theorem gX6_chain_X6_chained : GoodIn wsX6_chain (wsV RX6 206 RX6 yX6_chained wsX6_chained) := goodIn_app (goodIn_of _ (by decide +kernel)) ggX6_chain_X6_chained
theorem dX6_chain_0 : decode cX6_chain 0 = .ok (.aload_n 0, 1) := by decide +kernel
theorem dX6_chain_1 : decode cX6_chain 1 = .ok (.iconst 0, 1) := by decide +kernel
theorem dX6_chain_2 : decode cX6_chain 2 = .ok (.putfield 160, 3) := by decide +kernel
theorem dX6_chain_5 : decode cX6_chain 5 = .ok (.iconst 0, 1) := by decide +kernel
theorem dX6_chain_6 : decode cX6_chain 6 = .ok (.istore_n 1, 1) := by decide +kernel
theorem dX6_chain_7 : decode cX6_chain 7 = .ok (.iload_n 1, 1) := by decide +kernel
theorem dX6_chain_8 : decode cX6_chain 8 = .ok (.aload_n 0, 1) := by decide +kernel
theorem dX6_chain_9 : decode cX6_chain 9 = .ok (.getfield 203, 3) := by decide +kernel
theorem dX6_chain_12 : decode cX6_chain 12 = .ok (.if_icmp .ge 50, 3) := by decide +kernel
theorem dX6_chain_15 : decode cX6_chain 15 = .ok (.aload_n 0, 1) := by decide +kernel
theorem dX6_chain_16 : decode cX6_chain 16 = .ok (.iload_n 1, 1) := by decide +kernel
theorem dX6_chain_17 : decode cX6_chain 17 = .ok (.invokevirtual 206, 3) := by decide +kernel
theorem dX6_chain_20 : decode cX6_chain 20 = .ok (.iconst 0, 1) := by decide +kernel
theorem dX6_chain_21 : decode cX6_chain 21 = .ok (.istore_n 2, 1) := by decide +kernel
theorem dX6_chain_22 : decode cX6_chain 22 = .ok (.iload_n 2, 1) := by decide +kernel
theorem dX6_chain_23 : decode cX6_chain 23 = .ok (.bipush 32, 2) := by decide +kernel
theorem dX6_chain_25 : decode cX6_chain 25 = .ok (.if_icmp .ge 31, 3) := by decide +kernel
theorem dX6_chain_28 : decode cX6_chain 28 = .ok (.aload_n 0, 1) := by decide +kernel
theorem dX6_chain_29 : decode cX6_chain 29 = .ok (.getfield 67, 3) := by decide +kernel
theorem dX6_chain_32 : decode cX6_chain 32 = .ok (.iload_n 2, 1) := by decide +kernel
theorem dX6_chain_33 : decode cX6_chain 33 = .ok (.baload, 1) := by decide +kernel
theorem dX6_chain_34 : decode cX6_chain 34 = .ok (.aload_n 0, 1) := by decide +kernel
theorem dX6_chain_35 : decode cX6_chain 35 = .ok (.getfield 58, 3) := by decide +kernel
theorem dX6_chain_38 : decode cX6_chain 38 = .ok (.bipush 32, 2) := by decide +kernel
theorem dX6_chain_40 : decode cX6_chain 40 = .ok (.iload_n 1, 1) := by decide +kernel
theorem dX6_chain_41 : decode cX6_chain 41 = .ok (.imul, 1) := by decide +kernel
theorem dX6_chain_42 : decode cX6_chain 42 = .ok (.iload_n 2, 1) := by decide +kernel
theorem dX6_chain_43 : decode cX6_chain 43 = .ok (.iadd, 1) := by decide +kernel
theorem dX6_chain_44 : decode cX6_chain 44 = .ok (.baload, 1) := by decide +kernel
theorem dX6_chain_45 : decode cX6_chain 45 = .ok (.if_icmp .eq 5, 3) := by decide +kernel
theorem dX6_chain_48 : decode cX6_chain 48 = .ok (.iload_n 1, 1) := by decide +kernel
theorem dX6_chain_49 : decode cX6_chain 49 = .ok (.ireturn, 1) := by decide +kernel
theorem dX6_chain_50 : decode cX6_chain 50 = .ok (.iinc 2 1, 3) := by decide +kernel
theorem dX6_chain_53 : decode cX6_chain 53 = .ok (.goto (-31), 3) := by decide +kernel
theorem dX6_chain_56 : decode cX6_chain 56 = .ok (.iinc 1 1, 3) := by decide +kernel
theorem dX6_chain_59 : decode cX6_chain 59 = .ok (.goto (-52), 3) := by decide +kernel
theorem dX6_chain_62 : decode cX6_chain 62 = .ok (.iconst (-1), 1) := by decide +kernel
theorem dX6_chain_63 : decode cX6_chain 63 = .ok (.ireturn, 1) := by decide +kernel
