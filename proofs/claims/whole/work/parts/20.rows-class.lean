set_option maxRecDepth 20000 in
theorem ggX5_init_X1_init : GoodIn wsX5_init wsX1_init := goodIn_r _ [39, 40, 2, 3, 24, 41, 42, 89, 90] (by decide +kernel) (by decide +kernel)
set_option maxRecDepth 20000 in
theorem gX5_init_X1_init_n24 : GoodIn wsX5_init (wsX1_init) := ggX5_init_X1_init
set_option maxRecDepth 20000 in
theorem ggX5_init_X4_init : GoodIn wsX5_init wsX4_init := goodIn_r _ [45, 46, 2, 3, 24, 47, 48, 49, 18, 50, 51, 91] (by decide +kernel) (by decide +kernel)
set_option maxRecDepth 20000 in
theorem gX5_init_X4_init : GoodIn wsX5_init (wsX4_init) := ggX5_init_X4_init
set_option maxRecDepth 20000 in
theorem ggX5_init_X2_init : GoodIn wsX5_init wsX2_init := goodIn_r _ [53, 54, 2, 3, 24, 55, 92, 93] (by decide +kernel) (by decide +kernel)
set_option maxRecDepth 20000 in
theorem gX5_init_X2_init_n38 : GoodIn wsX5_init (wsX2_init) := ggX5_init_X2_init
set_option maxRecDepth 20000 in
theorem ggX5_init_X0_init : GoodIn wsX5_init wsX0_init := goodIn_r _ [57, 58, 2, 3, 59, 21, 22, 60, 24, 61, 62, 63, 52, 53, 54, 55, 92, 93, 94, 95, 96, 97, 98, 99, 100, 101] (by decide +kernel) (by decide +kernel)
set_option maxRecDepth 20000 in
theorem gX5_init_X0_init_n53 : GoodIn wsX5_init (wsX0_init) := ggX5_init_X0_init
set_option maxRecDepth 20000 in
theorem ggX5_init_X3_init : GoodIn wsX5_init wsX3_init := goodIn_r _ [65, 66, 2, 3, 67, 13, 14, 68, 69, 21, 22, 70, 24, 71, 72, 73, 74, 75, 38, 39, 40, 41, 42, 52, 53, 54, 55, 89, 90, 102, 103, 104, 105, 106, 107, 108, 92, 93] (by decide +kernel) (by decide +kernel)
set_option maxRecDepth 20000 in
theorem gX5_init_X3_init_n56 : GoodIn wsX5_init (wsX3_init) := ggX5_init_X3_init
theorem dX5_init_0 : decode cX5_init 0 = .ok (.aload_n 0, 1) := by decide +kernel
theorem dX5_init_1 : decode cX5_init 1 = .ok (.invokespecial 1, 3) := by decide +kernel
theorem dX5_init_4 : decode cX5_init 4 = .ok (.aload_n 0, 1) := by decide +kernel
theorem dX5_init_5 : decode cX5_init 5 = .ok (.iconst 1, 1) := by decide +kernel
theorem dX5_init_6 : decode cX5_init 6 = .ok (.bipush 20, 2) := by decide +kernel
theorem dX5_init_8 : decode cX5_init 8 = .ok (.iload_n 1, 1) := by decide +kernel
theorem dX5_init_9 : decode cX5_init 9 = .ok (.invokestatic 9, 3) := by decide +kernel
theorem dX5_init_12 : decode cX5_init 12 = .ok (.invokestatic 15, 3) := by decide +kernel
theorem dX5_init_15 : decode cX5_init 15 = .ok (.putfield 18, 3) := by decide +kernel
theorem dX5_init_18 : decode cX5_init 18 = .ok (.aload_n 0, 1) := by decide +kernel
theorem dX5_init_19 : decode cX5_init 19 = .ok (.new 22, 3) := by decide +kernel
theorem dX5_init_22 : decode cX5_init 22 = .ok (.dup, 1) := by decide +kernel
theorem dX5_init_23 : decode cX5_init 23 = .ok (.invokespecial 24, 3) := by decide +kernel
theorem dX5_init_26 : decode cX5_init 26 = .ok (.putfield 25, 3) := by decide +kernel
theorem dX5_init_29 : decode cX5_init 29 = .ok (.aload_n 0, 1) := by decide +kernel
theorem dX5_init_30 : decode cX5_init 30 = .ok (.new 29, 3) := by decide +kernel
theorem dX5_init_33 : decode cX5_init 33 = .ok (.dup, 1) := by decide +kernel
theorem dX5_init_34 : decode cX5_init 34 = .ok (.invokespecial 31, 3) := by decide +kernel
theorem dX5_init_37 : decode cX5_init 37 = .ok (.putfield 32, 3) := by decide +kernel
theorem dX5_init_40 : decode cX5_init 40 = .ok (.aload_n 0, 1) := by decide +kernel
theorem dX5_init_41 : decode cX5_init 41 = .ok (.new 36, 3) := by decide +kernel
theorem dX5_init_44 : decode cX5_init 44 = .ok (.dup, 1) := by decide +kernel
theorem dX5_init_45 : decode cX5_init 45 = .ok (.invokespecial 38, 3) := by decide +kernel
theorem dX5_init_48 : decode cX5_init 48 = .ok (.putfield 39, 3) := by decide +kernel
theorem dX5_init_51 : decode cX5_init 51 = .ok (.aload_n 0, 1) := by decide +kernel
theorem dX5_init_52 : decode cX5_init 52 = .ok (.bipush 8, 2) := by decide +kernel
theorem dX5_init_54 : decode cX5_init 54 = .ok (.newarray .int, 2) := by decide +kernel
theorem dX5_init_56 : decode cX5_init 56 = .ok (.putfield 43, 3) := by decide +kernel
theorem dX5_init_59 : decode cX5_init 59 = .ok (.aload_n 0, 1) := by decide +kernel
theorem dX5_init_60 : decode cX5_init 60 = .ok (.bipush 20, 2) := by decide +kernel
theorem dX5_init_62 : decode cX5_init 62 = .ok (.anewarray 47, 3) := by decide +kernel
theorem dX5_init_65 : decode cX5_init 65 = .ok (.putfield 49, 3) := by decide +kernel
theorem dX5_init_68 : decode cX5_init 68 = .ok (.iconst 0, 1) := by decide +kernel
theorem dX5_init_69 : decode cX5_init 69 = .ok (.istore_n 2, 1) := by decide +kernel
theorem dX5_init_70 : decode cX5_init 70 = .ok (.iload_n 2, 1) := by decide +kernel
theorem dX5_init_71 : decode cX5_init 71 = .ok (.bipush 20, 2) := by decide +kernel
theorem dX5_init_73 : decode cX5_init 73 = .ok (.if_icmp .ge 22, 3) := by decide +kernel
theorem dX5_init_76 : decode cX5_init 76 = .ok (.aload_n 0, 1) := by decide +kernel
theorem dX5_init_77 : decode cX5_init 77 = .ok (.getfield 49, 3) := by decide +kernel
theorem dX5_init_80 : decode cX5_init 80 = .ok (.iload_n 2, 1) := by decide +kernel
theorem dX5_init_81 : decode cX5_init 81 = .ok (.new 47, 3) := by decide +kernel
theorem dX5_init_84 : decode cX5_init 84 = .ok (.dup, 1) := by decide +kernel
theorem dX5_init_85 : decode cX5_init 85 = .ok (.invokespecial 53, 3) := by decide +kernel
theorem dX5_init_88 : decode cX5_init 88 = .ok (.aastore, 1) := by decide +kernel
theorem dX5_init_89 : decode cX5_init 89 = .ok (.iinc 2 1, 3) := by decide +kernel
theorem dX5_init_92 : decode cX5_init 92 = .ok (.goto (-22), 3) := by decide +kernel
theorem dX5_init_95 : decode cX5_init 95 = .ok (.aload_n 0, 1) := by decide +kernel
theorem dX5_init_96 : decode cX5_init 96 = .ok (.new 54, 3) := by decide +kernel
theorem dX5_init_99 : decode cX5_init 99 = .ok (.dup, 1) := by decide +kernel
theorem dX5_init_100 : decode cX5_init 100 = .ok (.invokespecial 56, 3) := by decide +kernel
theorem dX5_init_103 : decode cX5_init 103 = .ok (.putfield 57, 3) := by decide +kernel
theorem dX5_init_106 : decode cX5_init 106 = .ok (.aload_n 0, 1) := by decide +kernel
theorem dX5_init_107 : decode cX5_init 107 = .ok (.bipush 20, 2) := by decide +kernel
theorem dX5_init_109 : decode cX5_init 109 = .ok (.newarray .int, 2) := by decide +kernel
theorem dX5_init_111 : decode cX5_init 111 = .ok (.putfield 61, 3) := by decide +kernel
theorem dX5_init_114 : decode cX5_init 114 = .ok (.aload_n 0, 1) := by decide +kernel
theorem dX5_init_115 : decode cX5_init 115 = .ok (.bipush 20, 2) := by decide +kernel
theorem dX5_init_117 : decode cX5_init 117 = .ok (.newarray .boolean, 2) := by decide +kernel
theorem dX5_init_119 : decode cX5_init 119 = .ok (.putfield 64, 3) := by decide +kernel
theorem dX5_init_122 : decode cX5_init 122 = .ok (.aload_n 0, 1) := by decide +kernel
theorem dX5_init_123 : decode cX5_init 123 = .ok (.iconst (-1), 1) := by decide +kernel
theorem dX5_init_124 : decode cX5_init 124 = .ok (.putfield 68, 3) := by decide +kernel
theorem dX5_init_127 : decode cX5_init 127 = .ok (.return_, 1) := by decide +kernel
set_option maxRecDepth 20000 in
theorem ggX5_octet_X2_push : GoodIn wsX5_octet wsX2_push := goodIn_r _ [6, 7, 8, 22, 23] (by decide +kernel) (by decide +kernel)
set_option maxRecDepth 20000 in
theorem gX5_octet_X2_push : GoodIn wsX5_octet (wsV RX5 71 RX2 yX2_push wsX2_push) := goodIn_app (goodIn_of _ (by decide +kernel)) ggX5_octet_X2_push
theorem dX5_octet_0 : decode cX5_octet 0 = .ok (.aload_n 0, 1) := by decide +kernel
theorem dX5_octet_1 : decode cX5_octet 1 = .ok (.getfield 39, 3) := by decide +kernel
theorem dX5_octet_4 : decode cX5_octet 4 = .ok (.iload_n 1, 1) := by decide +kernel
theorem dX5_octet_5 : decode cX5_octet 5 = .ok (.invokevirtual 71, 3) := by decide +kernel
theorem dX5_octet_8 : decode cX5_octet 8 = .ok (.return_, 1) := by decide +kernel
set_option maxRecDepth 20000 in
theorem ggX5_digest_X1_compute : GoodIn wsX5_digest wsX1_compute := goodIn_r _ [10, 11, 12, 13, 14, 15, 16, 17, 18, 19, 20, 21, 9, 22, 23, 24, 25, 26, 27, 28, 29, 30, 31, 32, 33, 34, 35, 36, 37, 38, 39, 40, 41, 42, 43, 44, 45, 46, 47, 48, 74, 75, 76, 77] (by decide +kernel) (by decide +kernel)
set_option maxRecDepth 20000 in
theorem gX5_digest_X1_compute : GoodIn wsX5_digest (wsV RX5 75 RX1 yX1_compute wsX1_compute) := goodIn_app (goodIn_of _ (by decide +kernel)) ggX5_digest_X1_compute
set_option maxRecDepth 20000 in
theorem ggX5_digest_X1_copyTo : GoodIn wsX5_digest wsX1_copyTo := goodIn_r _ [52, 11, 74, 75] (by decide +kernel) (by decide +kernel)
set_option maxRecDepth 20000 in
theorem gX5_digest_X1_copyTo : GoodIn wsX5_digest (wsV RX5 79 RX1 yX1_copyTo wsX1_copyTo) := goodIn_app (goodIn_of _ (by decide +kernel)) ggX5_digest_X1_copyTo
set_option maxRecDepth 20000 in
theorem ggX5_digest_X4_compute : GoodIn wsX5_digest wsX4_compute := goodIn_r _ [57, 58, 59, 15, 16, 17, 18, 19, 60, 24, 25, 26, 27, 78, 76, 77] (by decide +kernel) (by decide +kernel)
set_option maxRecDepth 20000 in
theorem gX5_digest_X4_compute : GoodIn wsX5_digest (wsV RX5 86 RX4 yX4_compute wsX4_compute) := goodIn_app (goodIn_of _ (by decide +kernel)) ggX5_digest_X4_compute
theorem dX5_digest_0 : decode cX5_digest 0 = .ok (.iload_n 1, 1) := by decide +kernel
theorem dX5_digest_1 : decode cX5_digest 1 = .ok (.ifCond .ne 34, 3) := by decide +kernel
theorem dX5_digest_4 : decode cX5_digest 4 = .ok (.aload_n 0, 1) := by decide +kernel
theorem dX5_digest_5 : decode cX5_digest 5 = .ok (.getfield 25, 3) := by decide +kernel
theorem dX5_digest_8 : decode cX5_digest 8 = .ok (.aload_n 0, 1) := by decide +kernel
theorem dX5_digest_9 : decode cX5_digest 9 = .ok (.getfield 39, 3) := by decide +kernel
theorem dX5_digest_12 : decode cX5_digest 12 = .ok (.invokevirtual 75, 3) := by decide +kernel
theorem dX5_digest_15 : decode cX5_digest 15 = .ok (.aload_n 0, 1) := by decide +kernel
theorem dX5_digest_16 : decode cX5_digest 16 = .ok (.getfield 25, 3) := by decide +kernel
theorem dX5_digest_19 : decode cX5_digest 19 = .ok (.aload_n 0, 1) := by decide +kernel
theorem dX5_digest_20 : decode cX5_digest 20 = .ok (.getfield 43, 3) := by decide +kernel
theorem dX5_digest_23 : decode cX5_digest 23 = .ok (.invokevirtual 79, 3) := by decide +kernel
theorem dX5_digest_26 : decode cX5_digest 26 = .ok (.aload_n 0, 1) := by decide +kernel
theorem dX5_digest_27 : decode cX5_digest 27 = .ok (.bipush 32, 2) := by decide +kernel
theorem dX5_digest_29 : decode cX5_digest 29 = .ok (.putfield 83, 3) := by decide +kernel
theorem dX5_digest_32 : decode cX5_digest 32 = .ok (.bipush 32, 2) := by decide +kernel
theorem dX5_digest_34 : decode cX5_digest 34 = .ok (.ireturn, 1) := by decide +kernel
theorem dX5_digest_35 : decode cX5_digest 35 = .ok (.iload_n 1, 1) := by decide +kernel
theorem dX5_digest_36 : decode cX5_digest 36 = .ok (.iconst 1, 1) := by decide +kernel
theorem dX5_digest_37 : decode cX5_digest 37 = .ok (.if_icmp .ne 27, 3) := by decide +kernel
theorem dX5_digest_40 : decode cX5_digest 40 = .ok (.aload_n 0, 1) := by decide +kernel
theorem dX5_digest_41 : decode cX5_digest 41 = .ok (.getfield 43, 3) := by decide +kernel
theorem dX5_digest_44 : decode cX5_digest 44 = .ok (.iconst 0, 1) := by decide +kernel
theorem dX5_digest_45 : decode cX5_digest 45 = .ok (.aload_n 0, 1) := by decide +kernel
theorem dX5_digest_46 : decode cX5_digest 46 = .ok (.getfield 32, 3) := by decide +kernel
theorem dX5_digest_49 : decode cX5_digest 49 = .ok (.aload_n 0, 1) := by decide +kernel
theorem dX5_digest_50 : decode cX5_digest 50 = .ok (.getfield 39, 3) := by decide +kernel
theorem dX5_digest_53 : decode cX5_digest 53 = .ok (.invokevirtual 86, 3) := by decide +kernel
theorem dX5_digest_56 : decode cX5_digest 56 = .ok (.iastore, 1) := by decide +kernel
theorem dX5_digest_57 : decode cX5_digest 57 = .ok (.aload_n 0, 1) := by decide +kernel
theorem dX5_digest_58 : decode cX5_digest 58 = .ok (.iconst 4, 1) := by decide +kernel
theorem dX5_digest_59 : decode cX5_digest 59 = .ok (.putfield 83, 3) := by decide +kernel
theorem dX5_digest_62 : decode cX5_digest 62 = .ok (.iconst 4, 1) := by decide +kernel
theorem dX5_digest_63 : decode cX5_digest 63 = .ok (.ireturn, 1) := by decide +kernel
theorem dX5_digest_64 : decode cX5_digest 64 = .ok (.bipush (-2), 2) := by decide +kernel
theorem dX5_digest_66 : decode cX5_digest 66 = .ok (.ireturn, 1) := by decide +kernel
theorem dX5_at_0 : decode cX5_at 0 = .ok (.iload_n 1, 1) := by decide +kernel
theorem dX5_at_1 : decode cX5_at 1 = .ok (.ifCond .lt 11, 3) := by decide +kernel
theorem dX5_at_4 : decode cX5_at 4 = .ok (.iload_n 1, 1) := by decide +kernel
theorem dX5_at_5 : decode cX5_at 5 = .ok (.aload_n 0, 1) := by decide +kernel
theorem dX5_at_6 : decode cX5_at 6 = .ok (.getfield 83, 3) := by decide +kernel
theorem dX5_at_9 : decode cX5_at 9 = .ok (.if_icmp .lt 13, 3) := by decide +kernel
theorem dX5_at_12 : decode cX5_at 12 = .ok (.new 89, 3) := by decide +kernel
theorem dX5_at_15 : decode cX5_at 15 = .ok (.dup, 1) := by decide +kernel
theorem dX5_at_16 : decode cX5_at 16 = .ok (.ldc 91, 2) := by decide +kernel
theorem dX5_at_18 : decode cX5_at 18 = .ok (.invokespecial 93, 3) := by decide +kernel
theorem dX5_at_21 : decode cX5_at 21 = .ok (.athrow, 1) := by decide +kernel
theorem dX5_at_22 : decode cX5_at 22 = .ok (.aload_n 0, 1) := by decide +kernel
theorem dX5_at_23 : decode cX5_at 23 = .ok (.getfield 43, 3) := by decide +kernel
theorem dX5_at_26 : decode cX5_at 26 = .ok (.iload_n 1, 1) := by decide +kernel
theorem dX5_at_27 : decode cX5_at 27 = .ok (.iconst 2, 1) := by decide +kernel
theorem dX5_at_28 : decode cX5_at 28 = .ok (.ishr, 1) := by decide +kernel
theorem dX5_at_29 : decode cX5_at 29 = .ok (.iaload, 1) := by decide +kernel
theorem dX5_at_30 : decode cX5_at 30 = .ok (.bipush 24, 2) := by decide +kernel
theorem dX5_at_32 : decode cX5_at 32 = .ok (.bipush 8, 2) := by decide +kernel
theorem dX5_at_34 : decode cX5_at 34 = .ok (.iload_n 1, 1) := by decide +kernel
theorem dX5_at_35 : decode cX5_at 35 = .ok (.iconst 3, 1) := by decide +kernel
theorem dX5_at_36 : decode cX5_at 36 = .ok (.iand, 1) := by decide +kernel
theorem dX5_at_37 : decode cX5_at 37 = .ok (.imul, 1) := by decide +kernel
theorem dX5_at_38 : decode cX5_at 38 = .ok (.isub, 1) := by decide +kernel
theorem dX5_at_39 : decode cX5_at 39 = .ok (.iushr, 1) := by decide +kernel
theorem dX5_at_40 : decode cX5_at 40 = .ok (.sipush 255, 3) := by decide +kernel
theorem dX5_at_43 : decode cX5_at 43 = .ok (.iand, 1) := by decide +kernel
theorem dX5_at_44 : decode cX5_at 44 = .ok (.ireturn, 1) := by decide +kernel
set_option maxRecDepth 20000 in
theorem ggX5_file_X5_isDay : GoodIn wsX5_file wsX5_isDay := goodIn_r _ [10, 11] (by decide +kernel) (by decide +kernel)
set_option maxRecDepth 20000 in
theorem gX5_file_X5_isDay : GoodIn wsX5_file (va_wsS RX5 96 yX5_isDay wsX5_isDay) := goodIn_app (goodIn_of _ (by decide +kernel)) ggX5_file_X5_isDay
set_option maxRecDepth 20000 in
theorem ggX5_file_X2_copyFrom : GoodIn wsX5_file wsX2_copyFrom := goodIn_r _ [16, 17, 18, 139, 140] (by decide +kernel) (by decide +kernel)
set_option maxRecDepth 20000 in
theorem gX5_file_X2_copyFrom : GoodIn wsX5_file (wsV RX5 106 RX2 yX2_copyFrom wsX2_copyFrom) := goodIn_app (goodIn_of _ (by decide +kernel)) ggX5_file_X2_copyFrom
set_option maxRecDepth 20000 in
theorem ggX5_file_X1_compute : GoodIn wsX5_file wsX1_compute := goodIn_r _ [23, 24, 25, 26, 27, 28, 29, 15, 30, 17, 31, 32, 22, 33, 34, 35, 36, 37, 18, 38, 39, 40, 41, 42, 43, 44, 45, 46, 47, 48, 49, 50, 51, 52, 53, 54, 55, 56, 57, 58, 141, 142, 139, 140] (by decide +kernel) (by decide +kernel)
set_option maxRecDepth 20000 in
theorem gX5_file_X1_compute : GoodIn wsX5_file (wsV RX5 75 RX1 yX1_compute wsX1_compute) := goodIn_app (goodIn_of _ (by decide +kernel)) ggX5_file_X1_compute
set_option maxRecDepth 20000 in
theorem ggX5_file_X1_copyTo : GoodIn wsX5_file wsX1_copyTo := goodIn_r _ [62, 24, 141, 142] (by decide +kernel) (by decide +kernel)
set_option maxRecDepth 20000 in
theorem gX5_file_X1_copyTo : GoodIn wsX5_file (wsV RX5 79 RX1 yX1_copyTo wsX1_copyTo) := goodIn_app (goodIn_of _ (by decide +kernel)) ggX5_file_X1_copyTo
set_option maxRecDepth 20000 in
theorem ggX5_file_X4_compute : GoodIn wsX5_file wsX4_compute := goodIn_r _ [67, 68, 69, 28, 29, 15, 30, 17, 70, 35, 36, 37, 18, 143, 139, 140] (by decide +kernel) (by decide +kernel)
set_option maxRecDepth 20000 in
theorem gX5_file_X4_compute : GoodIn wsX5_file (wsV RX5 86 RX4 yX4_compute wsX4_compute) := goodIn_app (goodIn_of _ (by decide +kernel)) ggX5_file_X4_compute
set_option maxRecDepth 20000 in
theorem ggX5_file_X2_shorten : GoodIn wsX5_file wsX2_shorten := goodIn_r _ [74, 17, 139, 140] (by decide +kernel) (by decide +kernel)
set_option maxRecDepth 20000 in
theorem gX5_file_X2_shorten : GoodIn wsX5_file (wsV RX5 118 RX2 yX2_shorten wsX2_shorten) := goodIn_app (goodIn_of _ (by decide +kernel)) ggX5_file_X2_shorten
set_option maxRecDepth 20000 in
theorem ggX5_file_X3_append : GoodIn wsX5_file wsX3_append := goodIn_r _ [79, 80, 81, 82, 83, 84, 85, 86, 87, 88, 78, 89, 90, 91, 72, 73, 15, 74, 17, 92, 93, 94, 95, 96, 97, 98, 99, 100, 101, 102, 103, 18, 104, 105, 106, 107, 108, 109, 110, 111, 112, 113, 114, 115, 116, 20, 21, 22, 23, 24, 25, 26, 27, 28, 29, 30, 31, 32, 33, 34, 35, 36, 37, 38, 39, 40, 41, 42, 43, 44, 45, 46, 47, 48, 49, 50, 51, 52, 53, 54, 55, 56, 57, 58, 117, 60, 61, 62, 144, 145, 146, 147, 148, 149, 150, 139, 140, 141, 142] (by decide +kernel) (by decide +kernel)
set_option maxRecDepth 20000 in
theorem gX5_file_X3_append : GoodIn wsX5_file (wsV RX5 121 RX3 yX3_append wsX3_append) := goodIn_app (goodIn_of _ (by decide +kernel)) ggX5_file_X3_append
theorem dX5_file_0 : decode cX5_file 0 = .ok (.iload_n 1, 1) := by decide +kernel
theorem dX5_file_1 : decode cX5_file 1 = .ok (.iconst 1, 1) := by decide +kernel
theorem dX5_file_2 : decode cX5_file 2 = .ok (.if_icmp .lt 15, 3) := by decide +kernel
theorem dX5_file_5 : decode cX5_file 5 = .ok (.iload_n 1, 1) := by decide +kernel
theorem dX5_file_6 : decode cX5_file 6 = .ok (.iconst 3, 1) := by decide +kernel
theorem dX5_file_7 : decode cX5_file 7 = .ok (.if_icmp .gt 10, 3) := by decide +kernel
theorem dX5_file_10 : decode cX5_file 10 = .ok (.iload_n 2, 1) := by decide +kernel
theorem dX5_file_11 : decode cX5_file 11 = .ok (.invokestatic 96, 3) := by decide +kernel
theorem dX5_file_14 : decode cX5_file 14 = .ok (.ifCond .ne 6, 3) := by decide +kernel
theorem dX5_file_17 : decode cX5_file 17 = .ok (.bipush (-2), 2) := by decide +kernel
theorem dX5_file_19 : decode cX5_file 19 = .ok (.ireturn, 1) := by decide +kernel
theorem dX5_file_20 : decode cX5_file 20 = .ok (.aload_n 0, 1) := by decide +kernel
theorem dX5_file_21 : decode cX5_file 21 = .ok (.getfield 100, 3) := by decide +kernel
theorem dX5_file_24 : decode cX5_file 24 = .ok (.bipush 20, 2) := by decide +kernel
theorem dX5_file_26 : decode cX5_file 26 = .ok (.if_icmp .lt 6, 3) := by decide +kernel
theorem dX5_file_29 : decode cX5_file 29 = .ok (.bipush (-4), 2) := by decide +kernel
theorem dX5_file_31 : decode cX5_file 31 = .ok (.ireturn, 1) := by decide +kernel
theorem dX5_file_32 : decode cX5_file 32 = .ok (.aload_n 0, 1) := by decide +kernel
theorem dX5_file_33 : decode cX5_file 33 = .ok (.getfield 100, 3) := by decide +kernel
theorem dX5_file_36 : decode cX5_file 36 = .ok (.istore_n 3, 1) := by decide +kernel
theorem dX5_file_37 : decode cX5_file 37 = .ok (.aload_n 0, 1) := by decide +kernel
theorem dX5_file_38 : decode cX5_file 38 = .ok (.getfield 49, 3) := by decide +kernel
theorem dX5_file_41 : decode cX5_file 41 = .ok (.iload_n 3, 1) := by decide +kernel
theorem dX5_file_42 : decode cX5_file 42 = .ok (.aaload, 1) := by decide +kernel
theorem dX5_file_43 : decode cX5_file 43 = .ok (.astore 4, 2) := by decide +kernel
theorem dX5_file_45 : decode cX5_file 45 = .ok (.aload 4, 2) := by decide +kernel
theorem dX5_file_47 : decode cX5_file 47 = .ok (.getfield 103, 3) := by decide +kernel
theorem dX5_file_50 : decode cX5_file 50 = .ok (.aload_n 0, 1) := by decide +kernel
theorem dX5_file_51 : decode cX5_file 51 = .ok (.getfield 39, 3) := by decide +kernel
theorem dX5_file_54 : decode cX5_file 54 = .ok (.invokevirtual 106, 3) := by decide +kernel
theorem dX5_file_57 : decode cX5_file 57 = .ok (.aload 4, 2) := by decide +kernel
theorem dX5_file_59 : decode cX5_file 59 = .ok (.iload_n 1, 1) := by decide +kernel
theorem dX5_file_60 : decode cX5_file 60 = .ok (.putfield 109, 3) := by decide +kernel
theorem dX5_file_63 : decode cX5_file 63 = .ok (.aload_n 0, 1) := by decide +kernel
theorem dX5_file_64 : decode cX5_file 64 = .ok (.getfield 25, 3) := by decide +kernel
theorem dX5_file_67 : decode cX5_file 67 = .ok (.aload_n 0, 1) := by decide +kernel
theorem dX5_file_68 : decode cX5_file 68 = .ok (.getfield 39, 3) := by decide +kernel
theorem dX5_file_71 : decode cX5_file 71 = .ok (.invokevirtual 75, 3) := by decide +kernel
theorem dX5_file_74 : decode cX5_file 74 = .ok (.aload_n 0, 1) := by decide +kernel
theorem dX5_file_75 : decode cX5_file 75 = .ok (.getfield 25, 3) := by decide +kernel
theorem dX5_file_78 : decode cX5_file 78 = .ok (.aload 4, 2) := by decide +kernel
theorem dX5_file_80 : decode cX5_file 80 = .ok (.getfield 112, 3) := by decide +kernel
theorem dX5_file_83 : decode cX5_file 83 = .ok (.invokevirtual 79, 3) := by decide +kernel
theorem dX5_file_86 : decode cX5_file 86 = .ok (.aload 4, 2) := by decide +kernel
theorem dX5_file_88 : decode cX5_file 88 = .ok (.aload_n 0, 1) := by decide +kernel
theorem dX5_file_89 : decode cX5_file 89 = .ok (.getfield 32, 3) := by decide +kernel
theorem dX5_file_92 : decode cX5_file 92 = .ok (.aload_n 0, 1) := by decide +kernel
theorem dX5_file_93 : decode cX5_file 93 = .ok (.getfield 39, 3) := by decide +kernel
theorem dX5_file_96 : decode cX5_file 96 = .ok (.invokevirtual 86, 3) := by decide +kernel
theorem dX5_file_99 : decode cX5_file 99 = .ok (.putfield 115, 3) := by decide +kernel
theorem dX5_file_102 : decode cX5_file 102 = .ok (.aload_n 0, 1) := by decide +kernel
theorem dX5_file_103 : decode cX5_file 103 = .ok (.dup, 1) := by decide +kernel
theorem dX5_file_104 : decode cX5_file 104 = .ok (.getfield 100, 3) := by decide +kernel
theorem dX5_file_107 : decode cX5_file 107 = .ok (.iconst 1, 1) := by decide +kernel
theorem dX5_file_108 : decode cX5_file 108 = .ok (.iadd, 1) := by decide +kernel
theorem dX5_file_109 : decode cX5_file 109 = .ok (.putfield 100, 3) := by decide +kernel
theorem dX5_file_112 : decode cX5_file 112 = .ok (.aload_n 0, 1) := by decide +kernel
theorem dX5_file_113 : decode cX5_file 113 = .ok (.getfield 39, 3) := by decide +kernel
theorem dX5_file_116 : decode cX5_file 116 = .ok (.iconst 0, 1) := by decide +kernel
theorem dX5_file_117 : decode cX5_file 117 = .ok (.invokevirtual 118, 3) := by decide +kernel
theorem dX5_file_120 : decode cX5_file 120 = .ok (.aload_n 0, 1) := by decide +kernel
theorem dX5_file_121 : decode cX5_file 121 = .ok (.getfield 57, 3) := by decide +kernel
theorem dX5_file_124 : decode cX5_file 124 = .ok (.iconst 0, 1) := by decide +kernel
theorem dX5_file_125 : decode cX5_file 125 = .ok (.iload_n 3, 1) := by decide +kernel
theorem dX5_file_126 : decode cX5_file 126 = .ok (.iload_n 2, 1) := by decide +kernel
theorem dX5_file_127 : decode cX5_file 127 = .ok (.invokevirtual 121, 3) := by decide +kernel
theorem dX5_file_130 : decode cX5_file 130 = .ok (.iload_n 3, 1) := by decide +kernel
theorem dX5_file_131 : decode cX5_file 131 = .ok (.ireturn, 1) := by decide +kernel
set_option maxRecDepth 20000 in
theorem ggX5_alter_X5_isFile : GoodIn wsX5_alter wsX5_isFile := goodIn_r _ [6, 7, 24, 25, 26, 27, 28, 29, 30, 31, 32, 33, 34, 35, 36] (by decide +kernel) (by decide +kernel)
set_option maxRecDepth 20000 in
theorem gX5_alter_X5_isFile : GoodIn wsX5_alter (wsV RX5 125 RX5 yX5_isFile wsX5_isFile) := goodIn_app (goodIn_of _ (by decide +kernel)) ggX5_alter_X5_isFile
set_option maxRecDepth 20000 in
theorem ggX5_alter_X2_has : GoodIn wsX5_alter wsX2_has := goodIn_r _ [12, 13, 45, 46] (by decide +kernel) (by decide +kernel)
set_option maxRecDepth 20000 in
theorem gX5_alter_X2_has : GoodIn wsX5_alter (wsV RX5 128 RX2 yX2_has wsX2_has) := goodIn_app (goodIn_of _ (by decide +kernel)) ggX5_alter_X2_has
set_option maxRecDepth 20000 in
theorem ggX5_alter_X2_value : GoodIn wsX5_alter wsX2_value := goodIn_r _ [17, 13, 18, 45, 46] (by decide +kernel) (by decide +kernel)
set_option maxRecDepth 20000 in
theorem gX5_alter_X2_value : GoodIn wsX5_alter (wsV RX5 131 RX2 yX2_value wsX2_value) := goodIn_app (goodIn_of _ (by decide +kernel)) ggX5_alter_X2_value
set_option maxRecDepth 20000 in
theorem ggX5_alter_X2_replace : GoodIn wsX5_alter wsX2_replace := goodIn_r _ [22, 18, 23, 9, 10, 11, 12, 13, 45, 46] (by decide +kernel) (by decide +kernel)
set_option maxRecDepth 20000 in
theorem gX5_alter_X2_replace : GoodIn wsX5_alter (wsV RX5 135 RX2 yX2_replace wsX2_replace) := goodIn_app (goodIn_of _ (by decide +kernel)) ggX5_alter_X2_replace
theorem dX5_alter_0 : decode cX5_alter 0 = .ok (.aload_n 0, 1) := by decide +kernel
theorem dX5_alter_1 : decode cX5_alter 1 = .ok (.iload_n 1, 1) := by decide +kernel
theorem dX5_alter_2 : decode cX5_alter 2 = .ok (.invokevirtual 125, 3) := by decide +kernel
theorem dX5_alter_5 : decode cX5_alter 5 = .ok (.ifCond .ne 5, 3) := by decide +kernel
theorem dX5_alter_8 : decode cX5_alter 8 = .ok (.iconst (-1), 1) := by decide +kernel
theorem dX5_alter_9 : decode cX5_alter 9 = .ok (.ireturn, 1) := by decide +kernel
theorem dX5_alter_10 : decode cX5_alter 10 = .ok (.aload_n 0, 1) := by decide +kernel
theorem dX5_alter_11 : decode cX5_alter 11 = .ok (.getfield 49, 3) := by decide +kernel
theorem dX5_alter_14 : decode cX5_alter 14 = .ok (.iload_n 1, 1) := by decide +kernel
theorem dX5_alter_15 : decode cX5_alter 15 = .ok (.aaload, 1) := by decide +kernel
theorem dX5_alter_16 : decode cX5_alter 16 = .ok (.getfield 103, 3) := by decide +kernel
theorem dX5_alter_19 : decode cX5_alter 19 = .ok (.astore 4, 2) := by decide +kernel
theorem dX5_alter_21 : decode cX5_alter 21 = .ok (.aload 4, 2) := by decide +kernel
theorem dX5_alter_23 : decode cX5_alter 23 = .ok (.iload_n 2, 1) := by decide +kernel
theorem dX5_alter_24 : decode cX5_alter 24 = .ok (.invokevirtual 128, 3) := by decide +kernel
theorem dX5_alter_27 : decode cX5_alter 27 = .ok (.ifCond .ne 5, 3) := by decide +kernel
theorem dX5_alter_30 : decode cX5_alter 30 = .ok (.iconst (-1), 1) := by decide +kernel
theorem dX5_alter_31 : decode cX5_alter 31 = .ok (.ireturn, 1) := by decide +kernel
theorem dX5_alter_32 : decode cX5_alter 32 = .ok (.aload 4, 2) := by decide +kernel
theorem dX5_alter_34 : decode cX5_alter 34 = .ok (.iload_n 2, 1) := by decide +kernel
theorem dX5_alter_35 : decode cX5_alter 35 = .ok (.invokevirtual 131, 3) := by decide +kernel
theorem dX5_alter_38 : decode cX5_alter 38 = .ok (.istore 5, 2) := by decide +kernel
theorem dX5_alter_40 : decode cX5_alter 40 = .ok (.aload 4, 2) := by decide +kernel
theorem dX5_alter_42 : decode cX5_alter 42 = .ok (.iload_n 2, 1) := by decide +kernel
theorem dX5_alter_43 : decode cX5_alter 43 = .ok (.iload_n 3, 1) := by decide +kernel
theorem dX5_alter_44 : decode cX5_alter 44 = .ok (.invokevirtual 135, 3) := by decide +kernel
theorem dX5_alter_47 : decode cX5_alter 47 = .ok (.iload 5, 2) := by decide +kernel
theorem dX5_alter_49 : decode cX5_alter 49 = .ok (.ireturn, 1) := by decide +kernel
set_option maxRecDepth 20000 in
theorem ggX5_cut_X5_isFile : GoodIn wsX5_cut wsX5_isFile := goodIn_r _ [6, 7, 18, 19, 20, 21, 22, 23, 24, 25, 26, 27, 28, 29, 30] (by decide +kernel) (by decide +kernel)
set_option maxRecDepth 20000 in
theorem gX5_cut_X5_isFile : GoodIn wsX5_cut (wsV RX5 125 RX5 yX5_isFile wsX5_isFile) := goodIn_app (goodIn_of _ (by decide +kernel)) ggX5_cut_X5_isFile
set_option maxRecDepth 20000 in
theorem ggX5_cut_X2_count : GoodIn wsX5_cut wsX2_count := goodIn_r _ [12, 13, 39, 40] (by decide +kernel) (by decide +kernel)
set_option maxRecDepth 20000 in
theorem gX5_cut_X2_count : GoodIn wsX5_cut (wsV RX5 139 RX2 yX2_count wsX2_count) := goodIn_app (goodIn_of _ (by decide +kernel)) ggX5_cut_X2_count
set_option maxRecDepth 20000 in
theorem ggX5_cut_X2_shorten : GoodIn wsX5_cut wsX2_shorten := goodIn_r _ [17, 13, 39, 40] (by decide +kernel) (by decide +kernel)
set_option maxRecDepth 20000 in
theorem gX5_cut_X2_shorten : GoodIn wsX5_cut (wsV RX5 118 RX2 yX2_shorten wsX2_shorten) := goodIn_app (goodIn_of _ (by decide +kernel)) ggX5_cut_X2_shorten
theorem dX5_cut_0 : decode cX5_cut 0 = .ok (.aload_n 0, 1) := by decide +kernel
theorem dX5_cut_1 : decode cX5_cut 1 = .ok (.iload_n 1, 1) := by decide +kernel
theorem dX5_cut_2 : decode cX5_cut 2 = .ok (.invokevirtual 125, 3) := by decide +kernel
theorem dX5_cut_5 : decode cX5_cut 5 = .ok (.ifCond .ne 5, 3) := by decide +kernel
theorem dX5_cut_8 : decode cX5_cut 8 = .ok (.iconst (-1), 1) := by decide +kernel
theorem dX5_cut_9 : decode cX5_cut 9 = .ok (.ireturn, 1) := by decide +kernel
theorem dX5_cut_10 : decode cX5_cut 10 = .ok (.aload_n 0, 1) := by decide +kernel
theorem dX5_cut_11 : decode cX5_cut 11 = .ok (.getfield 49, 3) := by decide +kernel
theorem dX5_cut_14 : decode cX5_cut 14 = .ok (.iload_n 1, 1) := by decide +kernel
theorem dX5_cut_15 : decode cX5_cut 15 = .ok (.aaload, 1) := by decide +kernel
theorem dX5_cut_16 : decode cX5_cut 16 = .ok (.getfield 103, 3) := by decide +kernel
theorem dX5_cut_19 : decode cX5_cut 19 = .ok (.astore_n 3, 1) := by decide +kernel
theorem dX5_cut_20 : decode cX5_cut 20 = .ok (.aload_n 3, 1) := by decide +kernel
theorem dX5_cut_21 : decode cX5_cut 21 = .ok (.invokevirtual 139, 3) := by decide +kernel
theorem dX5_cut_24 : decode cX5_cut 24 = .ok (.istore 4, 2) := by decide +kernel
theorem dX5_cut_26 : decode cX5_cut 26 = .ok (.iload_n 2, 1) := by decide +kernel
theorem dX5_cut_27 : decode cX5_cut 27 = .ok (.ifCond .lt 9, 3) := by decide +kernel
theorem dX5_cut_30 : decode cX5_cut 30 = .ok (.iload_n 2, 1) := by decide +kernel
theorem dX5_cut_31 : decode cX5_cut 31 = .ok (.iload 4, 2) := by decide +kernel
theorem dX5_cut_33 : decode cX5_cut 33 = .ok (.if_icmp .le 6, 3) := by decide +kernel
theorem dX5_cut_36 : decode cX5_cut 36 = .ok (.bipush (-2), 2) := by decide +kernel
theorem dX5_cut_38 : decode cX5_cut 38 = .ok (.ireturn, 1) := by decide +kernel
theorem dX5_cut_39 : decode cX5_cut 39 = .ok (.aload_n 3, 1) := by decide +kernel
theorem dX5_cut_40 : decode cX5_cut 40 = .ok (.iload_n 2, 1) := by decide +kernel
theorem dX5_cut_41 : decode cX5_cut 41 = .ok (.invokevirtual 118, 3) := by decide +kernel
theorem dX5_cut_44 : decode cX5_cut 44 = .ok (.iload 4, 2) := by decide +kernel
theorem dX5_cut_46 : decode cX5_cut 46 = .ok (.iload_n 2, 1) := by decide +kernel
theorem dX5_cut_47 : decode cX5_cut 47 = .ok (.isub, 1) := by decide +kernel
theorem dX5_cut_48 : decode cX5_cut 48 = .ok (.ireturn, 1) := by decide +kernel
set_option maxRecDepth 20000 in
theorem ggX5_read_X5_isFile : GoodIn wsX5_read wsX5_isFile := goodIn_r _ [5, 6, 127, 128, 129, 130, 131, 132, 133, 134, 135, 136, 137, 138, 139] (by decide +kernel) (by decide +kernel)
set_option maxRecDepth 20000 in
theorem gX5_read_X5_isFile : GoodIn wsX5_read (wsV RX5 125 RX5 yX5_isFile wsX5_isFile) := goodIn_app (goodIn_of _ (by decide +kernel)) ggX5_read_X5_isFile
set_option maxRecDepth 20000 in
theorem ggX5_read_X5_isDay : GoodIn wsX5_read wsX5_isDay := goodIn_r _ [9, 10] (by decide +kernel) (by decide +kernel)
set_option maxRecDepth 20000 in
theorem gX5_read_X5_isDay : GoodIn wsX5_read (va_wsS RX5 96 yX5_isDay wsX5_isDay) := goodIn_app (goodIn_of _ (by decide +kernel)) ggX5_read_X5_isDay
set_option maxRecDepth 20000 in
theorem ggX5_read_X5_check : GoodIn wsX5_read wsX5_check := goodIn_r _ [14, 15, 16, 17, 18, 19, 4, 20, 21, 22, 23, 24, 25, 26, 27, 28, 29, 30, 31, 32, 33, 34, 35, 36, 37, 38, 39, 40, 41, 42, 43, 44, 45, 46, 47, 48, 49, 50, 51, 52, 53, 54, 55, 56, 57, 58, 59, 60, 61, 62, 63, 64, 65, 66, 67, 68, 69, 70, 71, 72, 73, 74, 75, 76, 77, 78, 79, 80, 81, 82, 83, 84, 85, 86, 87, 88, 89, 90, 91, 92, 93, 94, 95, 96, 97, 98, 99, 100, 101, 102, 103, 104, 105, 106, 107, 108, 109, 110, 111, 112, 113, 114, 115, 116, 117, 118, 119, 120, 121, 122, 123, 124, 125, 126, 127, 128, 129, 130, 131, 132, 133, 134, 135, 136, 137, 138, 139, 140, 141, 142, 143, 144, 145, 146, 147, 148, 149, 150, 151, 152, 153, 154, 155, 156, 157, 158, 159] (by decide +kernel) (by decide +kernel)
set_option maxRecDepth 20000 in
theorem gX5_read_X5_check : GoodIn wsX5_read (wsV RX5 143 RX5 yX5_check wsX5_check) := goodIn_app (goodIn_of _ (by decide +kernel)) ggX5_read_X5_check
theorem dX5_read_0 : decode cX5_read 0 = .ok (.aload_n 0, 1) := by decide +kernel
theorem dX5_read_1 : decode cX5_read 1 = .ok (.iload_n 1, 1) := by decide +kernel
theorem dX5_read_2 : decode cX5_read 2 = .ok (.invokevirtual 125, 3) := by decide +kernel
theorem dX5_read_5 : decode cX5_read 5 = .ok (.ifCond .ne 5, 3) := by decide +kernel
theorem dX5_read_8 : decode cX5_read 8 = .ok (.iconst (-1), 1) := by decide +kernel
theorem dX5_read_9 : decode cX5_read 9 = .ok (.ireturn, 1) := by decide +kernel
theorem dX5_read_10 : decode cX5_read 10 = .ok (.iload_n 2, 1) := by decide +kernel
theorem dX5_read_11 : decode cX5_read 11 = .ok (.invokestatic 96, 3) := by decide +kernel
theorem dX5_read_14 : decode cX5_read 14 = .ok (.ifCond .ne 6, 3) := by decide +kernel
theorem dX5_read_17 : decode cX5_read 17 = .ok (.bipush (-2), 2) := by decide +kernel
theorem dX5_read_19 : decode cX5_read 19 = .ok (.ireturn, 1) := by decide +kernel
theorem dX5_read_20 : decode cX5_read 20 = .ok (.aload_n 0, 1) := by decide +kernel
theorem dX5_read_21 : decode cX5_read 21 = .ok (.iload_n 1, 1) := by decide +kernel
theorem dX5_read_22 : decode cX5_read 22 = .ok (.iload_n 2, 1) := by decide +kernel
theorem dX5_read_23 : decode cX5_read 23 = .ok (.invokevirtual 143, 3) := by decide +kernel
theorem dX5_read_26 : decode cX5_read 26 = .ok (.ifCond .eq 7, 3) := by decide +kernel
theorem dX5_read_29 : decode cX5_read 29 = .ok (.iconst 1, 1) := by decide +kernel
theorem dX5_read_30 : decode cX5_read 30 = .ok (.goto 4, 3) := by decide +kernel
theorem dX5_read_33 : decode cX5_read 33 = .ok (.iconst 0, 1) := by decide +kernel
theorem dX5_read_34 : decode cX5_read 34 = .ok (.ireturn, 1) := by decide +kernel
set_option maxRecDepth 20000 in
theorem ggX5_schedule_X5_isFile : GoodIn wsX5_schedule wsX5_isFile := goodIn_r _ [6, 7, 19, 20, 21, 22, 23, 24, 25, 26, 27, 28, 29, 30, 31] (by decide +kernel) (by decide +kernel)
set_option maxRecDepth 20000 in
theorem gX5_schedule_X5_isFile : GoodIn wsX5_schedule (wsV RX5 125 RX5 yX5_isFile wsX5_isFile) := goodIn_app (goodIn_of _ (by decide +kernel)) ggX5_schedule_X5_isFile
set_option maxRecDepth 20000 in
theorem ggX5_schedule_X5_isDay : GoodIn wsX5_schedule wsX5_isDay := goodIn_r _ [10, 11] (by decide +kernel) (by decide +kernel)
set_option maxRecDepth 20000 in
theorem gX5_schedule_X5_isDay : GoodIn wsX5_schedule (va_wsS RX5 96 yX5_isDay wsX5_isDay) := goodIn_app (goodIn_of _ (by decide +kernel)) ggX5_schedule_X5_isDay
set_option maxRecDepth 20000 in
theorem ggX5_schedule_X0_plan : GoodIn wsX5_schedule wsX0_plan := goodIn_r _ [16, 17, 18, 32, 33, 34, 35, 36, 37, 38, 39] (by decide +kernel) (by decide +kernel)
set_option maxRecDepth 20000 in
theorem gX5_schedule_X0_plan : GoodIn wsX5_schedule (wsV RX5 147 RX0 yX0_plan wsX0_plan) := goodIn_app (goodIn_of _ (by decide +kernel)) ggX5_schedule_X0_plan
theorem dX5_schedule_0 : decode cX5_schedule 0 = .ok (.aload_n 0, 1) := by decide +kernel
theorem dX5_schedule_1 : decode cX5_schedule 1 = .ok (.iload_n 1, 1) := by decide +kernel
theorem dX5_schedule_2 : decode cX5_schedule 2 = .ok (.invokevirtual 125, 3) := by decide +kernel
theorem dX5_schedule_5 : decode cX5_schedule 5 = .ok (.ifCond .ne 5, 3) := by decide +kernel
theorem dX5_schedule_8 : decode cX5_schedule 8 = .ok (.iconst (-1), 1) := by decide +kernel
theorem dX5_schedule_9 : decode cX5_schedule 9 = .ok (.ireturn, 1) := by decide +kernel
theorem dX5_schedule_10 : decode cX5_schedule 10 = .ok (.iload_n 2, 1) := by decide +kernel
theorem dX5_schedule_11 : decode cX5_schedule 11 = .ok (.invokestatic 96, 3) := by decide +kernel
theorem dX5_schedule_14 : decode cX5_schedule 14 = .ok (.ifCond .eq 15, 3) := by decide +kernel
theorem dX5_schedule_17 : decode cX5_schedule 17 = .ok (.iload_n 3, 1) := by decide +kernel
theorem dX5_schedule_18 : decode cX5_schedule 18 = .ok (.iconst 1, 1) := by decide +kernel
theorem dX5_schedule_19 : decode cX5_schedule 19 = .ok (.if_icmp .lt 10, 3) := by decide +kernel
theorem dX5_schedule_22 : decode cX5_schedule 22 = .ok (.iload_n 3, 1) := by decide +kernel
theorem dX5_schedule_23 : decode cX5_schedule 23 = .ok (.sipush 1000, 3) := by decide +kernel
theorem dX5_schedule_26 : decode cX5_schedule 26 = .ok (.if_icmp .le 6, 3) := by decide +kernel
theorem dX5_schedule_29 : decode cX5_schedule 29 = .ok (.bipush (-2), 2) := by decide +kernel
theorem dX5_schedule_31 : decode cX5_schedule 31 = .ok (.ireturn, 1) := by decide +kernel
theorem dX5_schedule_32 : decode cX5_schedule 32 = .ok (.aload_n 0, 1) := by decide +kernel
theorem dX5_schedule_33 : decode cX5_schedule 33 = .ok (.getfield 49, 3) := by decide +kernel
theorem dX5_schedule_36 : decode cX5_schedule 36 = .ok (.iload_n 1, 1) := by decide +kernel
theorem dX5_schedule_37 : decode cX5_schedule 37 = .ok (.aaload, 1) := by decide +kernel
theorem dX5_schedule_38 : decode cX5_schedule 38 = .ok (.iload_n 2, 1) := by decide +kernel
theorem dX5_schedule_39 : decode cX5_schedule 39 = .ok (.iload_n 3, 1) := by decide +kernel
theorem dX5_schedule_40 : decode cX5_schedule 40 = .ok (.invokevirtual 147, 3) := by decide +kernel
theorem dX5_schedule_43 : decode cX5_schedule 43 = .ok (.iconst 1, 1) := by decide +kernel
theorem dX5_schedule_44 : decode cX5_schedule 44 = .ok (.ireturn, 1) := by decide +kernel
set_option maxRecDepth 20000 in
theorem ggX5_due_X5_isDay : GoodIn wsX5_due wsX5_isDay := goodIn_r _ [10, 11] (by decide +kernel) (by decide +kernel)
set_option maxRecDepth 20000 in
theorem gX5_due_X5_isDay : GoodIn wsX5_due (va_wsS RX5 96 yX5_isDay wsX5_isDay) := goodIn_app (goodIn_of _ (by decide +kernel)) ggX5_due_X5_isDay
set_option maxRecDepth 20000 in
theorem ggX5_due_X5_longestWaiting : GoodIn wsX5_due wsX5_longestWaiting := goodIn_r _ [15, 16, 6, 17, 18, 19, 20, 21, 22, 23, 148, 149, 150, 151, 152, 153, 154, 155, 156, 157, 158, 159, 160, 161, 162, 163, 164, 165, 166, 167, 168] (by decide +kernel) (by decide +kernel)
set_option maxRecDepth 20000 in
theorem gX5_due_X5_longestWaiting : GoodIn wsX5_due (wsV RX5 153 RX5 yX5_longestWaiting wsX5_longestWaiting) := goodIn_app (goodIn_of _ (by decide +kernel)) ggX5_due_X5_longestWaiting
set_option maxRecDepth 20000 in
theorem ggX5_due_X5_check : GoodIn wsX5_due wsX5_check := goodIn_r _ [27, 6, 28, 29, 30, 31, 9, 32, 33, 34, 35, 36, 37, 38, 39, 40, 41, 42, 43, 44, 45, 46, 47, 48, 49, 50, 51, 52, 53, 54, 55, 56, 57, 58, 59, 60, 61, 62, 63, 64, 65, 66, 67, 68, 69, 70, 71, 72, 73, 74, 75, 76, 77, 78, 79, 80, 81, 82, 83, 84, 85, 86, 87, 88, 89, 90, 91, 92, 93, 94, 95, 96, 97, 98, 99, 100, 101, 102, 103, 104, 105, 106, 107, 108, 109, 110, 111, 112, 113, 114, 115, 116, 117, 118, 119, 120, 121, 122, 123, 124, 125, 126, 127, 128, 129, 130, 131, 132, 133, 134, 135, 136, 137, 138, 148, 149, 150, 151, 152, 153, 154, 155, 156, 157, 158, 159, 160, 161, 162, 163, 164, 165, 166, 167, 168, 169, 170, 171, 172, 173, 174, 175, 176, 177, 178, 179, 180] (by decide +kernel) (by decide +kernel)
set_option maxRecDepth 20000 in
theorem gX5_due_X5_check : GoodIn wsX5_due (wsV RX5 143 RX5 yX5_check wsX5_check) := goodIn_app (goodIn_of _ (by decide +kernel)) ggX5_due_X5_check
set_option maxRecDepth 20000 in
theorem ggX5_due_X0_planBehind : GoodIn wsX5_due wsX0_planBehind := goodIn_r _ [142, 23, 22, 143, 18, 19, 20, 21, 161, 162, 163, 164, 165, 166, 167, 168] (by decide +kernel) (by decide +kernel)
set_option maxRecDepth 20000 in
theorem gX5_due_X0_planBehind : GoodIn wsX5_due (wsV RX5 156 RX0 yX0_planBehind wsX0_planBehind) := goodIn_app (goodIn_of _ (by decide +kernel)) ggX5_due_X0_planBehind
set_option maxRecDepth 20000 in
theorem ggX5_due_X5_countWaiting : GoodIn wsX5_due wsX5_countWaiting := goodIn_r _ [147, 16, 6, 17, 18, 19, 20, 21, 22, 23, 148, 149, 150, 151, 152, 153, 154, 155, 156, 157, 158, 159, 160, 161, 162, 163, 164, 165, 166, 167, 168] (by decide +kernel) (by decide +kernel)
set_option maxRecDepth 20000 in
theorem gX5_due_X5_countWaiting : GoodIn wsX5_due (wsV RX5 159 RX5 yX5_countWaiting wsX5_countWaiting) := goodIn_app (goodIn_of _ (by decide +kernel)) ggX5_due_X5_countWaiting
theorem dX5_due_0 : decode cX5_due 0 = .ok (.iload_n 1, 1) := by decide +kernel
theorem dX5_due_1 : decode cX5_due 1 = .ok (.invokestatic 96, 3) := by decide +kernel
theorem dX5_due_4 : decode cX5_due 4 = .ok (.ifCond .ne 6, 3) := by decide +kernel
theorem dX5_due_7 : decode cX5_due 7 = .ok (.bipush (-2), 2) := by decide +kernel
theorem dX5_due_9 : decode cX5_due 9 = .ok (.ireturn, 1) := by decide +kernel
theorem dX5_due_10 : decode cX5_due 10 = .ok (.iload_n 1, 1) := by decide +kernel
theorem dX5_due_11 : decode cX5_due 11 = .ok (.aload_n 0, 1) := by decide +kernel
theorem dX5_due_12 : decode cX5_due 12 = .ok (.getfield 68, 3) := by decide +kernel
theorem dX5_due_15 : decode cX5_due 15 = .ok (.if_icmp .ge 6, 3) := by decide +kernel
theorem dX5_due_18 : decode cX5_due 18 = .ok (.bipush (-3), 2) := by decide +kernel
theorem dX5_due_20 : decode cX5_due 20 = .ok (.ireturn, 1) := by decide +kernel
theorem dX5_due_21 : decode cX5_due 21 = .ok (.aload_n 0, 1) := by decide +kernel
theorem dX5_due_22 : decode cX5_due 22 = .ok (.iload_n 1, 1) := by decide +kernel
theorem dX5_due_23 : decode cX5_due 23 = .ok (.putfield 68, 3) := by decide +kernel
theorem dX5_due_26 : decode cX5_due 26 = .ok (.aload_n 0, 1) := by decide +kernel
theorem dX5_due_27 : decode cX5_due 27 = .ok (.iconst 0, 1) := by decide +kernel
theorem dX5_due_28 : decode cX5_due 28 = .ok (.putfield 150, 3) := by decide +kernel
theorem dX5_due_31 : decode cX5_due 31 = .ok (.iconst 0, 1) := by decide +kernel
theorem dX5_due_32 : decode cX5_due 32 = .ok (.istore_n 2, 1) := by decide +kernel
theorem dX5_due_33 : decode cX5_due 33 = .ok (.iload_n 2, 1) := by decide +kernel
theorem dX5_due_34 : decode cX5_due 34 = .ok (.aload_n 0, 1) := by decide +kernel
theorem dX5_due_35 : decode cX5_due 35 = .ok (.getfield 18, 3) := by decide +kernel
theorem dX5_due_38 : decode cX5_due 38 = .ok (.if_icmp .ge 59, 3) := by decide +kernel
theorem dX5_due_41 : decode cX5_due 41 = .ok (.aload_n 0, 1) := by decide +kernel
theorem dX5_due_42 : decode cX5_due 42 = .ok (.iload_n 1, 1) := by decide +kernel
theorem dX5_due_43 : decode cX5_due 43 = .ok (.invokevirtual 153, 3) := by decide +kernel
theorem dX5_due_46 : decode cX5_due 46 = .ok (.istore_n 3, 1) := by decide +kernel
theorem dX5_due_47 : decode cX5_due 47 = .ok (.iload_n 3, 1) := by decide +kernel
theorem dX5_due_48 : decode cX5_due 48 = .ok (.iconst (-1), 1) := by decide +kernel
theorem dX5_due_49 : decode cX5_due 49 = .ok (.if_icmp .ne 6, 3) := by decide +kernel
theorem dX5_due_52 : decode cX5_due 52 = .ok (.goto 45, 3) := by decide +kernel
theorem dX5_due_55 : decode cX5_due 55 = .ok (.aload_n 0, 1) := by decide +kernel
theorem dX5_due_56 : decode cX5_due 56 = .ok (.getfield 61, 3) := by decide +kernel
theorem dX5_due_59 : decode cX5_due 59 = .ok (.iload_n 2, 1) := by decide +kernel
theorem dX5_due_60 : decode cX5_due 60 = .ok (.iload_n 3, 1) := by decide +kernel
theorem dX5_due_61 : decode cX5_due 61 = .ok (.iastore, 1) := by decide +kernel
theorem dX5_due_62 : decode cX5_due 62 = .ok (.aload_n 0, 1) := by decide +kernel
theorem dX5_due_63 : decode cX5_due 63 = .ok (.getfield 64, 3) := by decide +kernel
theorem dX5_due_66 : decode cX5_due 66 = .ok (.iload_n 2, 1) := by decide +kernel
theorem dX5_due_67 : decode cX5_due 67 = .ok (.aload_n 0, 1) := by decide +kernel
theorem dX5_due_68 : decode cX5_due 68 = .ok (.iload_n 3, 1) := by decide +kernel
theorem dX5_due_69 : decode cX5_due 69 = .ok (.iload_n 1, 1) := by decide +kernel
theorem dX5_due_70 : decode cX5_due 70 = .ok (.invokevirtual 143, 3) := by decide +kernel
theorem dX5_due_73 : decode cX5_due 73 = .ok (.bastore, 1) := by decide +kernel
theorem dX5_due_74 : decode cX5_due 74 = .ok (.aload_n 0, 1) := by decide +kernel
theorem dX5_due_75 : decode cX5_due 75 = .ok (.iload_n 2, 1) := by decide +kernel
theorem dX5_due_76 : decode cX5_due 76 = .ok (.iconst 1, 1) := by decide +kernel
theorem dX5_due_77 : decode cX5_due 77 = .ok (.iadd, 1) := by decide +kernel
theorem dX5_due_78 : decode cX5_due 78 = .ok (.putfield 150, 3) := by decide +kernel
theorem dX5_due_81 : decode cX5_due 81 = .ok (.aload_n 0, 1) := by decide +kernel
theorem dX5_due_82 : decode cX5_due 82 = .ok (.getfield 49, 3) := by decide +kernel
theorem dX5_due_85 : decode cX5_due 85 = .ok (.iload_n 3, 1) := by decide +kernel
theorem dX5_due_86 : decode cX5_due 86 = .ok (.aaload, 1) := by decide +kernel
theorem dX5_due_87 : decode cX5_due 87 = .ok (.iload_n 1, 1) := by decide +kernel
theorem dX5_due_88 : decode cX5_due 88 = .ok (.invokevirtual 156, 3) := by decide +kernel
theorem dX5_due_91 : decode cX5_due 91 = .ok (.iinc 2 1, 3) := by decide +kernel
theorem dX5_due_94 : decode cX5_due 94 = .ok (.goto (-61), 3) := by decide +kernel
theorem dX5_due_97 : decode cX5_due 97 = .ok (.aload_n 0, 1) := by decide +kernel
theorem dX5_due_98 : decode cX5_due 98 = .ok (.iload_n 1, 1) := by decide +kernel
theorem dX5_due_99 : decode cX5_due 99 = .ok (.invokevirtual 159, 3) := by decide +kernel
theorem dX5_due_102 : decode cX5_due 102 = .ok (.istore_n 2, 1) := by decide +kernel
theorem dX5_due_103 : decode cX5_due 103 = .ok (.iload_n 2, 1) := by decide +kernel
theorem dX5_due_104 : decode cX5_due 104 = .ok (.ifCond .ne 10, 3) := by decide +kernel
theorem dX5_due_107 : decode cX5_due 107 = .ok (.aload_n 0, 1) := by decide +kernel
theorem dX5_due_108 : decode cX5_due 108 = .ok (.getfield 150, 3) := by decide +kernel
theorem dX5_due_111 : decode cX5_due 111 = .ok (.goto 7, 3) := by decide +kernel
theorem dX5_due_114 : decode cX5_due 114 = .ok (.bipush (-10), 2) := by decide +kernel
theorem dX5_due_116 : decode cX5_due 116 = .ok (.iload_n 2, 1) := by decide +kernel
theorem dX5_due_117 : decode cX5_due 117 = .ok (.isub, 1) := by decide +kernel
theorem dX5_due_118 : decode cX5_due 118 = .ok (.ireturn, 1) := by decide +kernel
theorem dX5_told_0 : decode cX5_told 0 = .ok (.iload_n 1, 1) := by decide +kernel
theorem dX5_told_1 : decode cX5_told 1 = .ok (.ifCond .lt 11, 3) := by decide +kernel
theorem dX5_told_4 : decode cX5_told 4 = .ok (.iload_n 1, 1) := by decide +kernel
theorem dX5_told_5 : decode cX5_told 5 = .ok (.aload_n 0, 1) := by decide +kernel
theorem dX5_told_6 : decode cX5_told 6 = .ok (.getfield 150, 3) := by decide +kernel
theorem dX5_told_9 : decode cX5_told 9 = .ok (.if_icmp .lt 5, 3) := by decide +kernel
theorem dX5_told_12 : decode cX5_told 12 = .ok (.iconst (-1), 1) := by decide +kernel
theorem dX5_told_13 : decode cX5_told 13 = .ok (.ireturn, 1) := by decide +kernel
theorem dX5_told_14 : decode cX5_told 14 = .ok (.iload_n 2, 1) := by decide +kernel
theorem dX5_told_15 : decode cX5_told 15 = .ok (.lookupswitch 47 #[(0, 25), (1, 32)], 25) := by decide +kernel
theorem dX5_told_40 : decode cX5_told 40 = .ok (.aload_n 0, 1) := by decide +kernel
theorem dX5_told_41 : decode cX5_told 41 = .ok (.getfield 61, 3) := by decide +kernel
theorem dX5_told_44 : decode cX5_told 44 = .ok (.iload_n 1, 1) := by decide +kernel
theorem dX5_told_45 : decode cX5_told 45 = .ok (.iaload, 1) := by decide +kernel
theorem dX5_told_46 : decode cX5_told 46 = .ok (.ireturn, 1) := by decide +kernel
theorem dX5_told_47 : decode cX5_told 47 = .ok (.aload_n 0, 1) := by decide +kernel
theorem dX5_told_48 : decode cX5_told 48 = .ok (.getfield 64, 3) := by decide +kernel
theorem dX5_told_51 : decode cX5_told 51 = .ok (.iload_n 1, 1) := by decide +kernel
theorem dX5_told_52 : decode cX5_told 52 = .ok (.baload, 1) := by decide +kernel
theorem dX5_told_53 : decode cX5_told 53 = .ok (.ifCond .eq 7, 3) := by decide +kernel
theorem dX5_told_56 : decode cX5_told 56 = .ok (.iconst 1, 1) := by decide +kernel
theorem dX5_told_57 : decode cX5_told 57 = .ok (.goto 4, 3) := by decide +kernel
theorem dX5_told_60 : decode cX5_told 60 = .ok (.iconst 0, 1) := by decide +kernel
theorem dX5_told_61 : decode cX5_told 61 = .ok (.ireturn, 1) := by decide +kernel
theorem dX5_told_62 : decode cX5_told 62 = .ok (.iconst (-1), 1) := by decide +kernel
theorem dX5_told_63 : decode cX5_told 63 = .ok (.ireturn, 1) := by decide +kernel
set_option maxRecDepth 20000 in
theorem ggX5_mend_X5_isFile : GoodIn wsX5_mend wsX5_isFile := goodIn_r _ [7, 8, 131, 132, 133, 134, 135, 136, 137, 138, 139, 140, 141, 142, 143] (by decide +kernel) (by decide +kernel)
set_option maxRecDepth 20000 in
theorem gX5_mend_X5_isFile : GoodIn wsX5_mend (wsV RX5 125 RX5 yX5_isFile wsX5_isFile) := goodIn_app (goodIn_of _ (by decide +kernel)) ggX5_mend_X5_isFile
set_option maxRecDepth 20000 in
theorem ggX5_mend_X5_isDay : GoodIn wsX5_mend wsX5_isDay := goodIn_r _ [11, 12] (by decide +kernel) (by decide +kernel)
set_option maxRecDepth 20000 in
theorem gX5_mend_X5_isDay : GoodIn wsX5_mend (va_wsS RX5 96 yX5_isDay wsX5_isDay) := goodIn_app (goodIn_of _ (by decide +kernel)) ggX5_mend_X5_isDay
set_option maxRecDepth 20000 in
theorem ggX5_mend_X5_matches : GoodIn wsX5_mend wsX5_matches := goodIn_r _ [16, 17, 18, 19, 20, 21, 22, 23, 24, 25, 26, 27, 28, 29, 30, 31, 32, 33, 34, 35, 36, 37, 38, 39, 40, 41, 42, 43, 44, 45, 46, 47, 48, 49, 50, 51, 52, 53, 54, 55, 56, 57, 58, 59, 60, 61, 62, 63, 64, 65, 66, 67, 68, 69, 70, 71, 72, 73, 144, 145, 146, 147, 148, 149, 150, 151, 131, 132, 133, 134, 135, 136, 137, 138, 139, 140, 141, 142, 143, 152, 153, 154, 155, 156] (by decide +kernel) (by decide +kernel)
set_option maxRecDepth 20000 in
theorem gX5_mend_X5_matches : GoodIn wsX5_mend (wsV RX5 162 RX5 yX5_matches wsX5_matches) := goodIn_app (goodIn_of _ (by decide +kernel)) ggX5_mend_X5_matches
set_option maxRecDepth 20000 in
theorem ggX5_mend_X5_firstCopyFor : GoodIn wsX5_mend wsX5_firstCopyFor := goodIn_r _ [77, 8, 1, 13, 14, 15, 6, 16, 17, 18, 19, 20, 21, 22, 23, 24, 25, 26, 27, 28, 29, 30, 31, 32, 33, 34, 35, 36, 37, 38, 39, 40, 41, 42, 43, 44, 45, 46, 47, 48, 49, 50, 51, 52, 53, 54, 55, 56, 57, 58, 59, 60, 61, 62, 63, 64, 65, 66, 67, 68, 69, 70, 71, 72, 73, 131, 132, 133, 134, 135, 136, 137, 138, 139, 140, 141, 142, 143, 144, 145, 146, 147, 148, 149, 150, 151, 152, 153, 154, 155, 156] (by decide +kernel) (by decide +kernel)
set_option maxRecDepth 20000 in
theorem gX5_mend_X5_firstCopyFor : GoodIn wsX5_mend (wsV RX5 166 RX5 yX5_firstCopyFor wsX5_firstCopyFor) := goodIn_app (goodIn_of _ (by decide +kernel)) ggX5_mend_X5_firstCopyFor
set_option maxRecDepth 20000 in
theorem ggX5_mend_X2_copyFrom : GoodIn wsX5_mend wsX2_copyFrom := goodIn_r _ [81, 30, 35, 153, 154] (by decide +kernel) (by decide +kernel)
set_option maxRecDepth 20000 in
theorem gX5_mend_X2_copyFrom : GoodIn wsX5_mend (wsV RX5 106 RX2 yX2_copyFrom wsX2_copyFrom) := goodIn_app (goodIn_of _ (by decide +kernel)) ggX5_mend_X2_copyFrom
set_option maxRecDepth 20000 in
theorem ggX5_mend_X3_append : GoodIn wsX5_mend wsX3_append := goodIn_r _ [86, 87, 88, 89, 90, 91, 92, 93, 94, 95, 85, 96, 97, 98, 99, 100, 28, 101, 30, 102, 103, 104, 105, 106, 107, 108, 109, 110, 111, 112, 113, 35, 114, 115, 116, 117, 118, 119, 120, 121, 122, 123, 124, 125, 126, 37, 38, 39, 40, 41, 42, 43, 44, 26, 27, 29, 45, 46, 47, 48, 32, 33, 34, 49, 50, 51, 52, 53, 54, 55, 56, 57, 58, 59, 60, 61, 62, 63, 64, 65, 66, 67, 68, 69, 127, 128, 129, 130, 157, 158, 159, 160, 161, 162, 163, 153, 154, 155, 156] (by decide +kernel) (by decide +kernel)
set_option maxRecDepth 20000 in
theorem gX5_mend_X3_append : GoodIn wsX5_mend (wsV RX5 121 RX3 yX3_append wsX3_append) := goodIn_app (goodIn_of _ (by decide +kernel)) ggX5_mend_X3_append
theorem dX5_mend_0 : decode cX5_mend 0 = .ok (.aload_n 0, 1) := by decide +kernel
theorem dX5_mend_1 : decode cX5_mend 1 = .ok (.iload_n 1, 1) := by decide +kernel
theorem dX5_mend_2 : decode cX5_mend 2 = .ok (.invokevirtual 125, 3) := by decide +kernel
theorem dX5_mend_5 : decode cX5_mend 5 = .ok (.ifCond .ne 5, 3) := by decide +kernel
theorem dX5_mend_8 : decode cX5_mend 8 = .ok (.iconst (-1), 1) := by decide +kernel
theorem dX5_mend_9 : decode cX5_mend 9 = .ok (.ireturn, 1) := by decide +kernel
theorem dX5_mend_10 : decode cX5_mend 10 = .ok (.iload_n 2, 1) := by decide +kernel
theorem dX5_mend_11 : decode cX5_mend 11 = .ok (.invokestatic 96, 3) := by decide +kernel
theorem dX5_mend_14 : decode cX5_mend 14 = .ok (.ifCond .ne 6, 3) := by decide +kernel
theorem dX5_mend_17 : decode cX5_mend 17 = .ok (.bipush (-2), 2) := by decide +kernel
theorem dX5_mend_19 : decode cX5_mend 19 = .ok (.ireturn, 1) := by decide +kernel
theorem dX5_mend_20 : decode cX5_mend 20 = .ok (.aload_n 0, 1) := by decide +kernel
theorem dX5_mend_21 : decode cX5_mend 21 = .ok (.getfield 49, 3) := by decide +kernel
theorem dX5_mend_24 : decode cX5_mend 24 = .ok (.iload_n 1, 1) := by decide +kernel
theorem dX5_mend_25 : decode cX5_mend 25 = .ok (.aaload, 1) := by decide +kernel
theorem dX5_mend_26 : decode cX5_mend 26 = .ok (.astore_n 3, 1) := by decide +kernel
theorem dX5_mend_27 : decode cX5_mend 27 = .ok (.aload_n 0, 1) := by decide +kernel
theorem dX5_mend_28 : decode cX5_mend 28 = .ok (.aload_n 3, 1) := by decide +kernel
theorem dX5_mend_29 : decode cX5_mend 29 = .ok (.getfield 103, 3) := by decide +kernel
theorem dX5_mend_32 : decode cX5_mend 32 = .ok (.aload_n 3, 1) := by decide +kernel
theorem dX5_mend_33 : decode cX5_mend 33 = .ok (.invokevirtual 162, 3) := by decide +kernel
theorem dX5_mend_36 : decode cX5_mend 36 = .ok (.ifCond .eq 6, 3) := by decide +kernel
theorem dX5_mend_39 : decode cX5_mend 39 = .ok (.bipush (-3), 2) := by decide +kernel
theorem dX5_mend_41 : decode cX5_mend 41 = .ok (.ireturn, 1) := by decide +kernel
theorem dX5_mend_42 : decode cX5_mend 42 = .ok (.aload_n 0, 1) := by decide +kernel
theorem dX5_mend_43 : decode cX5_mend 43 = .ok (.aload_n 3, 1) := by decide +kernel
theorem dX5_mend_44 : decode cX5_mend 44 = .ok (.invokevirtual 166, 3) := by decide +kernel
theorem dX5_mend_47 : decode cX5_mend 47 = .ok (.istore 4, 2) := by decide +kernel
theorem dX5_mend_49 : decode cX5_mend 49 = .ok (.iload 4, 2) := by decide +kernel
theorem dX5_mend_51 : decode cX5_mend 51 = .ok (.iconst (-1), 1) := by decide +kernel
theorem dX5_mend_52 : decode cX5_mend 52 = .ok (.if_icmp .ne 6, 3) := by decide +kernel
theorem dX5_mend_55 : decode cX5_mend 55 = .ok (.bipush (-10), 2) := by decide +kernel
theorem dX5_mend_57 : decode cX5_mend 57 = .ok (.ireturn, 1) := by decide +kernel
theorem dX5_mend_58 : decode cX5_mend 58 = .ok (.aload_n 3, 1) := by decide +kernel
theorem dX5_mend_59 : decode cX5_mend 59 = .ok (.getfield 103, 3) := by decide +kernel
theorem dX5_mend_62 : decode cX5_mend 62 = .ok (.aload_n 0, 1) := by decide +kernel
theorem dX5_mend_63 : decode cX5_mend 63 = .ok (.getfield 49, 3) := by decide +kernel
theorem dX5_mend_66 : decode cX5_mend 66 = .ok (.iload 4, 2) := by decide +kernel
theorem dX5_mend_68 : decode cX5_mend 68 = .ok (.aaload, 1) := by decide +kernel
theorem dX5_mend_69 : decode cX5_mend 69 = .ok (.getfield 103, 3) := by decide +kernel
theorem dX5_mend_72 : decode cX5_mend 72 = .ok (.invokevirtual 106, 3) := by decide +kernel
theorem dX5_mend_75 : decode cX5_mend 75 = .ok (.aload_n 3, 1) := by decide +kernel
theorem dX5_mend_76 : decode cX5_mend 76 = .ok (.dup, 1) := by decide +kernel
theorem dX5_mend_77 : decode cX5_mend 77 = .ok (.getfield 170, 3) := by decide +kernel
theorem dX5_mend_80 : decode cX5_mend 80 = .ok (.iconst 1, 1) := by decide +kernel
theorem dX5_mend_81 : decode cX5_mend 81 = .ok (.iadd, 1) := by decide +kernel
theorem dX5_mend_82 : decode cX5_mend 82 = .ok (.putfield 170, 3) := by decide +kernel
theorem dX5_mend_85 : decode cX5_mend 85 = .ok (.aload_n 0, 1) := by decide +kernel
theorem dX5_mend_86 : decode cX5_mend 86 = .ok (.getfield 57, 3) := by decide +kernel
theorem dX5_mend_89 : decode cX5_mend 89 = .ok (.iconst 3, 1) := by decide +kernel
theorem dX5_mend_90 : decode cX5_mend 90 = .ok (.iload_n 1, 1) := by decide +kernel
theorem dX5_mend_91 : decode cX5_mend 91 = .ok (.iload_n 2, 1) := by decide +kernel
theorem dX5_mend_92 : decode cX5_mend 92 = .ok (.invokevirtual 121, 3) := by decide +kernel
theorem dX5_mend_95 : decode cX5_mend 95 = .ok (.iload 4, 2) := by decide +kernel
theorem dX5_mend_97 : decode cX5_mend 97 = .ok (.ireturn, 1) := by decide +kernel
set_option maxRecDepth 20000 in
theorem ggX5_about_X5_isFile : GoodIn wsX5_about wsX5_isFile := goodIn_r _ [6, 7, 14, 15, 16, 17, 18, 19, 20, 21, 22, 23, 24, 25, 26] (by decide +kernel) (by decide +kernel)
set_option maxRecDepth 20000 in
theorem gX5_about_X5_isFile : GoodIn wsX5_about (wsV RX5 125 RX5 yX5_isFile wsX5_isFile) := goodIn_app (goodIn_of _ (by decide +kernel)) ggX5_about_X5_isFile
set_option maxRecDepth 20000 in
theorem ggX5_about_X2_count : GoodIn wsX5_about wsX2_count := goodIn_r _ [12, 13, 35, 36] (by decide +kernel) (by decide +kernel)
set_option maxRecDepth 20000 in
theorem gX5_about_X2_count : GoodIn wsX5_about (wsV RX5 139 RX2 yX2_count wsX2_count) := goodIn_app (goodIn_of _ (by decide +kernel)) ggX5_about_X2_count
theorem dX5_about_0 : decode cX5_about 0 = .ok (.aload_n 0, 1) := by decide +kernel
theorem dX5_about_1 : decode cX5_about 1 = .ok (.iload_n 1, 1) := by decide +kernel
theorem dX5_about_2 : decode cX5_about 2 = .ok (.invokevirtual 125, 3) := by decide +kernel
theorem dX5_about_5 : decode cX5_about 5 = .ok (.ifCond .ne 5, 3) := by decide +kernel
theorem dX5_about_8 : decode cX5_about 8 = .ok (.iconst (-1), 1) := by decide +kernel
theorem dX5_about_9 : decode cX5_about 9 = .ok (.ireturn, 1) := by decide +kernel
theorem dX5_about_10 : decode cX5_about 10 = .ok (.aload_n 0, 1) := by decide +kernel
theorem dX5_about_11 : decode cX5_about 11 = .ok (.getfield 49, 3) := by decide +kernel
theorem dX5_about_14 : decode cX5_about 14 = .ok (.iload_n 1, 1) := by decide +kernel
theorem dX5_about_15 : decode cX5_about 15 = .ok (.aaload, 1) := by decide +kernel
theorem dX5_about_16 : decode cX5_about 16 = .ok (.astore_n 3, 1) := by decide +kernel
theorem dX5_about_17 : decode cX5_about 17 = .ok (.iload_n 2, 1) := by decide +kernel
theorem dX5_about_18 : decode cX5_about 18 = .ok (.tableswitch 53 0 3 #[30, 38, 43, 48], 30) := by decide +kernel
theorem dX5_about_48 : decode cX5_about 48 = .ok (.aload_n 3, 1) := by decide +kernel
theorem dX5_about_49 : decode cX5_about 49 = .ok (.getfield 103, 3) := by decide +kernel
theorem dX5_about_52 : decode cX5_about 52 = .ok (.invokevirtual 139, 3) := by decide +kernel
theorem dX5_about_55 : decode cX5_about 55 = .ok (.ireturn, 1) := by decide +kernel
theorem dX5_about_56 : decode cX5_about 56 = .ok (.aload_n 3, 1) := by decide +kernel
theorem dX5_about_57 : decode cX5_about 57 = .ok (.getfield 173, 3) := by decide +kernel
theorem dX5_about_60 : decode cX5_about 60 = .ok (.ireturn, 1) := by decide +kernel
theorem dX5_about_61 : decode cX5_about 61 = .ok (.aload_n 3, 1) := by decide +kernel
theorem dX5_about_62 : decode cX5_about 62 = .ok (.getfield 176, 3) := by decide +kernel
theorem dX5_about_65 : decode cX5_about 65 = .ok (.ireturn, 1) := by decide +kernel
theorem dX5_about_66 : decode cX5_about 66 = .ok (.aload_n 3, 1) := by decide +kernel
theorem dX5_about_67 : decode cX5_about 67 = .ok (.getfield 170, 3) := by decide +kernel
theorem dX5_about_70 : decode cX5_about 70 = .ok (.ireturn, 1) := by decide +kernel
theorem dX5_about_71 : decode cX5_about 71 = .ok (.iconst (-1), 1) := by decide +kernel
theorem dX5_about_72 : decode cX5_about 72 = .ok (.ireturn, 1) := by decide +kernel
set_option maxRecDepth 20000 in
theorem ggX5_row_X3_has : GoodIn wsX5_row wsX3_has := goodIn_r _ [6, 7, 42, 43, 44, 45, 46, 47, 48] (by decide +kernel) (by decide +kernel)
set_option maxRecDepth 20000 in
theorem gX5_row_X3_has : GoodIn wsX5_row (wsV RX5 179 RX3 yX3_has wsX3_has) := goodIn_app (goodIn_of _ (by decide +kernel)) ggX5_row_X3_has
set_option maxRecDepth 20000 in
theorem ggX5_row_X3_kindOf : GoodIn wsX5_row wsX3_kindOf := goodIn_r _ [11, 12, 13, 3, 4, 5, 6, 7, 42, 43, 44, 45, 46, 47, 48] (by decide +kernel) (by decide +kernel)
set_option maxRecDepth 20000 in
theorem gX5_row_X3_kindOf : GoodIn wsX5_row (wsV RX5 180 RX3 yX3_kindOf wsX3_kindOf) := goodIn_app (goodIn_of _ (by decide +kernel)) ggX5_row_X3_kindOf
set_option maxRecDepth 20000 in
theorem ggX5_row_X3_fileOf : GoodIn wsX5_row wsX3_fileOf := goodIn_r _ [17, 18, 13, 3, 4, 5, 6, 7, 42, 43, 44, 45, 46, 47, 48] (by decide +kernel) (by decide +kernel)
set_option maxRecDepth 20000 in
theorem gX5_row_X3_fileOf : GoodIn wsX5_row (wsV RX5 183 RX3 yX3_fileOf wsX3_fileOf) := goodIn_app (goodIn_of _ (by decide +kernel)) ggX5_row_X3_fileOf
set_option maxRecDepth 20000 in
theorem ggX5_row_X3_dayOf : GoodIn wsX5_row wsX3_dayOf := goodIn_r _ [22, 23, 13, 3, 4, 5, 6, 7, 42, 43, 44, 45, 46, 47, 48] (by decide +kernel) (by decide +kernel)
set_option maxRecDepth 20000 in
theorem gX5_row_X3_dayOf : GoodIn wsX5_row (wsV RX5 186 RX3 yX3_dayOf wsX3_dayOf) := goodIn_app (goodIn_of _ (by decide +kernel)) ggX5_row_X3_dayOf
set_option maxRecDepth 20000 in
theorem ggX5_row_X3_firstWordOf : GoodIn wsX5_row wsX3_firstWordOf := goodIn_r _ [27, 28, 13, 3, 4, 5, 6, 7, 42, 43, 44, 45, 46, 47, 48] (by decide +kernel) (by decide +kernel)
set_option maxRecDepth 20000 in
theorem gX5_row_X3_firstWordOf : GoodIn wsX5_row (wsV RX5 189 RX3 yX3_firstWordOf wsX3_firstWordOf) := goodIn_app (goodIn_of _ (by decide +kernel)) ggX5_row_X3_firstWordOf
theorem dX5_row_0 : decode cX5_row 0 = .ok (.aload_n 0, 1) := by decide +kernel
theorem dX5_row_1 : decode cX5_row 1 = .ok (.getfield 57, 3) := by decide +kernel
theorem dX5_row_4 : decode cX5_row 4 = .ok (.iload_n 1, 1) := by decide +kernel
theorem dX5_row_5 : decode cX5_row 5 = .ok (.invokevirtual 179, 3) := by decide +kernel
theorem dX5_row_8 : decode cX5_row 8 = .ok (.ifCond .ne 5, 3) := by decide +kernel
theorem dX5_row_11 : decode cX5_row 11 = .ok (.iconst (-1), 1) := by decide +kernel
theorem dX5_row_12 : decode cX5_row 12 = .ok (.ireturn, 1) := by decide +kernel
theorem dX5_row_13 : decode cX5_row 13 = .ok (.iload_n 2, 1) := by decide +kernel
theorem dX5_row_14 : decode cX5_row 14 = .ok (.tableswitch 66 0 3 #[30, 39, 48, 57], 30) := by decide +kernel
theorem dX5_row_44 : decode cX5_row 44 = .ok (.aload_n 0, 1) := by decide +kernel
theorem dX5_row_45 : decode cX5_row 45 = .ok (.getfield 57, 3) := by decide +kernel
theorem dX5_row_48 : decode cX5_row 48 = .ok (.iload_n 1, 1) := by decide +kernel
theorem dX5_row_49 : decode cX5_row 49 = .ok (.invokevirtual 180, 3) := by decide +kernel
theorem dX5_row_52 : decode cX5_row 52 = .ok (.ireturn, 1) := by decide +kernel
theorem dX5_row_53 : decode cX5_row 53 = .ok (.aload_n 0, 1) := by decide +kernel
theorem dX5_row_54 : decode cX5_row 54 = .ok (.getfield 57, 3) := by decide +kernel
theorem dX5_row_57 : decode cX5_row 57 = .ok (.iload_n 1, 1) := by decide +kernel
theorem dX5_row_58 : decode cX5_row 58 = .ok (.invokevirtual 183, 3) := by decide +kernel
theorem dX5_row_61 : decode cX5_row 61 = .ok (.ireturn, 1) := by decide +kernel
theorem dX5_row_62 : decode cX5_row 62 = .ok (.aload_n 0, 1) := by decide +kernel
theorem dX5_row_63 : decode cX5_row 63 = .ok (.getfield 57, 3) := by decide +kernel
theorem dX5_row_66 : decode cX5_row 66 = .ok (.iload_n 1, 1) := by decide +kernel
theorem dX5_row_67 : decode cX5_row 67 = .ok (.invokevirtual 186, 3) := by decide +kernel
theorem dX5_row_70 : decode cX5_row 70 = .ok (.ireturn, 1) := by decide +kernel
theorem dX5_row_71 : decode cX5_row 71 = .ok (.aload_n 0, 1) := by decide +kernel
theorem dX5_row_72 : decode cX5_row 72 = .ok (.getfield 57, 3) := by decide +kernel
theorem dX5_row_75 : decode cX5_row 75 = .ok (.iload_n 1, 1) := by decide +kernel
theorem dX5_row_76 : decode cX5_row 76 = .ok (.invokevirtual 189, 3) := by decide +kernel
theorem dX5_row_79 : decode cX5_row 79 = .ok (.ireturn, 1) := by decide +kernel
theorem dX5_row_80 : decode cX5_row 80 = .ok (.iconst (-1), 1) := by decide +kernel
theorem dX5_row_81 : decode cX5_row 81 = .ok (.ireturn, 1) := by decide +kernel
set_option maxRecDepth 20000 in
theorem ggX5_spoil_X3_has : GoodIn wsX5_spoil wsX3_has := goodIn_r _ [6, 7, 34, 35, 36, 37, 38, 39, 40] (by decide +kernel) (by decide +kernel)
set_option maxRecDepth 20000 in
theorem gX5_spoil_X3_has : GoodIn wsX5_spoil (wsV RX5 179 RX3 yX3_has wsX3_has) := goodIn_app (goodIn_of _ (by decide +kernel)) ggX5_spoil_X3_has
set_option maxRecDepth 20000 in
theorem ggX5_spoil_X3_remove : GoodIn wsX5_spoil wsX3_remove := goodIn_r _ [11, 7, 12, 13, 14, 15, 16, 3, 4, 5, 6, 34, 35, 36, 37, 38, 39, 40] (by decide +kernel) (by decide +kernel)
set_option maxRecDepth 20000 in
theorem gX5_spoil_X3_remove : GoodIn wsX5_spoil (wsV RX5 192 RX3 yX3_remove wsX3_remove) := goodIn_app (goodIn_of _ (by decide +kernel)) ggX5_spoil_X3_remove
set_option maxRecDepth 20000 in
theorem ggX5_spoil_X3_changeDay : GoodIn wsX5_spoil wsX3_changeDay := goodIn_r _ [20, 14, 16, 3, 4, 5, 6, 7, 34, 35, 36, 37, 38, 39, 40] (by decide +kernel) (by decide +kernel)
set_option maxRecDepth 20000 in
theorem gX5_spoil_X3_changeDay : GoodIn wsX5_spoil (wsV RX5 195 RX3 yX3_changeDay wsX3_changeDay) := goodIn_app (goodIn_of _ (by decide +kernel)) ggX5_spoil_X3_changeDay
theorem dX5_spoil_0 : decode cX5_spoil 0 = .ok (.aload_n 0, 1) := by decide +kernel
theorem dX5_spoil_1 : decode cX5_spoil 1 = .ok (.getfield 57, 3) := by decide +kernel
theorem dX5_spoil_4 : decode cX5_spoil 4 = .ok (.iload_n 1, 1) := by decide +kernel
theorem dX5_spoil_5 : decode cX5_spoil 5 = .ok (.invokevirtual 179, 3) := by decide +kernel
theorem dX5_spoil_8 : decode cX5_spoil 8 = .ok (.ifCond .ne 5, 3) := by decide +kernel
theorem dX5_spoil_11 : decode cX5_spoil 11 = .ok (.iconst (-1), 1) := by decide +kernel
theorem dX5_spoil_12 : decode cX5_spoil 12 = .ok (.ireturn, 1) := by decide +kernel
theorem dX5_spoil_13 : decode cX5_spoil 13 = .ok (.iload_n 2, 1) := by decide +kernel
theorem dX5_spoil_14 : decode cX5_spoil 14 = .ok (.ifCond .ne 13, 3) := by decide +kernel
theorem dX5_spoil_17 : decode cX5_spoil 17 = .ok (.aload_n 0, 1) := by decide +kernel
theorem dX5_spoil_18 : decode cX5_spoil 18 = .ok (.getfield 57, 3) := by decide +kernel
theorem dX5_spoil_21 : decode cX5_spoil 21 = .ok (.iload_n 1, 1) := by decide +kernel
theorem dX5_spoil_22 : decode cX5_spoil 22 = .ok (.invokevirtual 192, 3) := by decide +kernel
theorem dX5_spoil_25 : decode cX5_spoil 25 = .ok (.iconst 0, 1) := by decide +kernel
theorem dX5_spoil_26 : decode cX5_spoil 26 = .ok (.ireturn, 1) := by decide +kernel
theorem dX5_spoil_27 : decode cX5_spoil 27 = .ok (.aload_n 0, 1) := by decide +kernel
theorem dX5_spoil_28 : decode cX5_spoil 28 = .ok (.getfield 57, 3) := by decide +kernel
theorem dX5_spoil_31 : decode cX5_spoil 31 = .ok (.iload_n 1, 1) := by decide +kernel
theorem dX5_spoil_32 : decode cX5_spoil 32 = .ok (.iload_n 2, 1) := by decide +kernel
theorem dX5_spoil_33 : decode cX5_spoil 33 = .ok (.invokevirtual 195, 3) := by decide +kernel
theorem dX5_spoil_36 : decode cX5_spoil 36 = .ok (.iconst 1, 1) := by decide +kernel
theorem dX5_spoil_37 : decode cX5_spoil 37 = .ok (.ireturn, 1) := by decide +kernel
set_option maxRecDepth 20000 in
theorem ggX5_chain_X3_firstBroken : GoodIn wsX5_chain wsX3_firstBroken := goodIn_r _ [6, 7, 8, 9, 10, 11, 12, 5, 13, 14, 15, 16, 17, 18, 19, 20, 21, 22, 23, 24, 25, 26, 27, 28, 29, 30, 31, 32, 33, 34, 35, 36, 37, 38, 39, 40, 41, 42, 43, 44, 45, 46, 47, 48, 49, 50, 51, 52, 53, 54, 55, 56, 57, 58, 59, 60, 61, 62, 63, 64, 65, 66, 67, 68, 69, 70, 71, 72, 73, 74, 75, 76, 77, 78, 79, 80, 81, 82, 83, 84, 85, 86, 87, 88, 89, 90, 91, 92, 106, 107, 108, 109, 110, 111, 112, 113, 114, 115, 116] (by decide +kernel) (by decide +kernel)
set_option maxRecDepth 20000 in
theorem gX5_chain_X3_firstBroken : GoodIn wsX5_chain (wsV RX5 198 RX3 yX3_firstBroken wsX3_firstBroken) := goodIn_app (goodIn_of _ (by decide +kernel)) ggX5_chain_X3_firstBroken
theorem dX5_chain_0 : decode cX5_chain 0 = .ok (.aload_n 0, 1) := by decide +kernel
theorem dX5_chain_1 : decode cX5_chain 1 = .ok (.getfield 57, 3) := by decide +kernel
theorem dX5_chain_4 : decode cX5_chain 4 = .ok (.invokevirtual 198, 3) := by decide +kernel
theorem dX5_chain_7 : decode cX5_chain 7 = .ok (.ireturn, 1) := by decide +kernel
theorem dX5_isDay_0 : decode cX5_isDay 0 = .ok (.iload_n 0, 1) := by decide +kernel
theorem dX5_isDay_1 : decode cX5_isDay 1 = .ok (.ifCond .lt 13, 3) := by decide +kernel
theorem dX5_isDay_4 : decode cX5_isDay 4 = .ok (.iload_n 0, 1) := by decide +kernel
theorem dX5_isDay_5 : decode cX5_isDay 5 = .ok (.ldc 201, 2) := by decide +kernel
theorem dX5_isDay_7 : decode cX5_isDay 7 = .ok (.if_icmp .gt 7, 3) := by decide +kernel
theorem dX5_isDay_10 : decode cX5_isDay 10 = .ok (.iconst 1, 1) := by decide +kernel
theorem dX5_isDay_11 : decode cX5_isDay 11 = .ok (.goto 4, 3) := by decide +kernel
theorem dX5_isDay_14 : decode cX5_isDay 14 = .ok (.iconst 0, 1) := by decide +kernel
theorem dX5_isDay_15 : decode cX5_isDay 15 = .ok (.ireturn, 1) := by decide +kernel
theorem dX5_isFile_0 : decode cX5_isFile 0 = .ok (.iload_n 1, 1) := by decide +kernel
theorem dX5_isFile_1 : decode cX5_isFile 1 = .ok (.ifCond .lt 15, 3) := by decide +kernel
theorem dX5_isFile_4 : decode cX5_isFile 4 = .ok (.iload_n 1, 1) := by decide +kernel
theorem dX5_isFile_5 : decode cX5_isFile 5 = .ok (.aload_n 0, 1) := by decide +kernel
theorem dX5_isFile_6 : decode cX5_isFile 6 = .ok (.getfield 100, 3) := by decide +kernel
theorem dX5_isFile_9 : decode cX5_isFile 9 = .ok (.if_icmp .ge 7, 3) := by decide +kernel
theorem dX5_isFile_12 : decode cX5_isFile 12 = .ok (.iconst 1, 1) := by decide +kernel
theorem dX5_isFile_13 : decode cX5_isFile 13 = .ok (.goto 4, 3) := by decide +kernel
theorem dX5_isFile_16 : decode cX5_isFile 16 = .ok (.iconst 0, 1) := by decide +kernel
theorem dX5_isFile_17 : decode cX5_isFile 17 = .ok (.ireturn, 1) := by decide +kernel
set_option maxRecDepth 20000 in
theorem ggX5_matches_X4_compute : GoodIn wsX5_matches wsX4_compute := goodIn_r _ [7, 8, 9, 10, 11, 12, 13, 14, 15, 16, 17, 18, 19, 79, 80, 81] (by decide +kernel) (by decide +kernel)
set_option maxRecDepth 20000 in
theorem gX5_matches_X4_compute : GoodIn wsX5_matches (wsV RX5 86 RX4 yX4_compute wsX4_compute) := goodIn_app (goodIn_of _ (by decide +kernel)) ggX5_matches_X4_compute
set_option maxRecDepth 20000 in
theorem ggX5_matches_X1_compute : GoodIn wsX5_matches wsX1_compute := goodIn_r _ [24, 25, 26, 27, 28, 10, 11, 12, 13, 14, 29, 30, 23, 31, 32, 16, 17, 18, 19, 33, 34, 35, 36, 37, 38, 39, 40, 41, 42, 43, 44, 45, 46, 47, 48, 49, 50, 51, 52, 53, 82, 83, 80, 81] (by decide +kernel) (by decide +kernel)
set_option maxRecDepth 20000 in
theorem gX5_matches_X1_compute : GoodIn wsX5_matches (wsV RX5 75 RX1 yX1_compute wsX1_compute) := goodIn_app (goodIn_of _ (by decide +kernel)) ggX5_matches_X1_compute
set_option maxRecDepth 20000 in
theorem ggX5_matches_X1_equalTo : GoodIn wsX5_matches wsX1_equalTo := goodIn_r _ [57, 25, 82, 83] (by decide +kernel) (by decide +kernel)
set_option maxRecDepth 20000 in
theorem gX5_matches_X1_equalTo : GoodIn wsX5_matches (wsV RX5 202 RX1 yX1_equalTo wsX1_equalTo) := goodIn_app (goodIn_of _ (by decide +kernel)) ggX5_matches_X1_equalTo
theorem dX5_matches_0 : decode cX5_matches 0 = .ok (.aload_n 2, 1) := by decide +kernel
theorem dX5_matches_1 : decode cX5_matches 1 = .ok (.getfield 109, 3) := by decide +kernel
theorem dX5_matches_4 : decode cX5_matches 4 = .ok (.iconst 2, 1) := by decide +kernel
theorem dX5_matches_5 : decode cX5_matches 5 = .ok (.iand, 1) := by decide +kernel
theorem dX5_matches_6 : decode cX5_matches 6 = .ok (.ifCond .eq 20, 3) := by decide +kernel
theorem dX5_matches_9 : decode cX5_matches 9 = .ok (.aload_n 0, 1) := by decide +kernel
theorem dX5_matches_10 : decode cX5_matches 10 = .ok (.getfield 32, 3) := by decide +kernel
theorem dX5_matches_13 : decode cX5_matches 13 = .ok (.aload_n 1, 1) := by decide +kernel
theorem dX5_matches_14 : decode cX5_matches 14 = .ok (.invokevirtual 86, 3) := by decide +kernel
theorem dX5_matches_17 : decode cX5_matches 17 = .ok (.aload_n 2, 1) := by decide +kernel
theorem dX5_matches_18 : decode cX5_matches 18 = .ok (.getfield 115, 3) := by decide +kernel
theorem dX5_matches_21 : decode cX5_matches 21 = .ok (.if_icmp .eq 5, 3) := by decide +kernel
theorem dX5_matches_24 : decode cX5_matches 24 = .ok (.iconst 0, 1) := by decide +kernel
theorem dX5_matches_25 : decode cX5_matches 25 = .ok (.ireturn, 1) := by decide +kernel
theorem dX5_matches_26 : decode cX5_matches 26 = .ok (.aload_n 2, 1) := by decide +kernel
theorem dX5_matches_27 : decode cX5_matches 27 = .ok (.getfield 109, 3) := by decide +kernel
theorem dX5_matches_30 : decode cX5_matches 30 = .ok (.iconst 1, 1) := by decide +kernel
theorem dX5_matches_31 : decode cX5_matches 31 = .ok (.iand, 1) := by decide +kernel
theorem dX5_matches_32 : decode cX5_matches 32 = .ok (.ifCond .ne 5, 3) := by decide +kernel
theorem dX5_matches_35 : decode cX5_matches 35 = .ok (.iconst 1, 1) := by decide +kernel
theorem dX5_matches_36 : decode cX5_matches 36 = .ok (.ireturn, 1) := by decide +kernel
theorem dX5_matches_37 : decode cX5_matches 37 = .ok (.aload_n 0, 1) := by decide +kernel
theorem dX5_matches_38 : decode cX5_matches 38 = .ok (.getfield 25, 3) := by decide +kernel
theorem dX5_matches_41 : decode cX5_matches 41 = .ok (.aload_n 1, 1) := by decide +kernel
theorem dX5_matches_42 : decode cX5_matches 42 = .ok (.invokevirtual 75, 3) := by decide +kernel
theorem dX5_matches_45 : decode cX5_matches 45 = .ok (.aload_n 0, 1) := by decide +kernel
theorem dX5_matches_46 : decode cX5_matches 46 = .ok (.getfield 25, 3) := by decide +kernel
theorem dX5_matches_49 : decode cX5_matches 49 = .ok (.aload_n 2, 1) := by decide +kernel
theorem dX5_matches_50 : decode cX5_matches 50 = .ok (.getfield 112, 3) := by decide +kernel
theorem dX5_matches_53 : decode cX5_matches 53 = .ok (.invokevirtual 202, 3) := by decide +kernel
theorem dX5_matches_56 : decode cX5_matches 56 = .ok (.ireturn, 1) := by decide +kernel
set_option maxRecDepth 20000 in
theorem ggX5_check_X5_matches : GoodIn wsX5_check wsX5_matches := goodIn_r _ [7, 8, 9, 10, 11, 12, 13, 14, 15, 16, 17, 18, 19, 20, 21, 22, 23, 24, 25, 26, 27, 28, 29, 30, 31, 32, 33, 34, 35, 36, 37, 38, 39, 40, 41, 42, 43, 44, 45, 46, 47, 48, 49, 50, 51, 52, 53, 54, 55, 56, 57, 58, 59, 60, 61, 62, 63, 64, 127, 128, 129, 130, 131, 132, 133, 134, 114, 115, 116, 117, 118, 119, 120, 121, 122, 123, 124, 125, 126, 135, 136, 137, 138, 139] (by decide +kernel) (by decide +kernel)
set_option maxRecDepth 20000 in
theorem gX5_check_X5_matches : GoodIn wsX5_check (wsV RX5 162 RX5 yX5_matches wsX5_matches) := goodIn_app (goodIn_of _ (by decide +kernel)) ggX5_check_X5_matches
set_option maxRecDepth 20000 in
theorem ggX5_check_X3_append : GoodIn wsX5_check wsX3_append := goodIn_r _ [69, 70, 71, 72, 73, 74, 75, 76, 77, 78, 68, 79, 80, 81, 82, 83, 19, 84, 21, 85, 86, 87, 88, 89, 90, 91, 92, 93, 94, 95, 96, 26, 97, 98, 99, 100, 101, 102, 103, 104, 105, 106, 107, 108, 109, 28, 29, 30, 31, 32, 33, 34, 35, 17, 18, 20, 36, 37, 38, 39, 23, 24, 25, 40, 41, 42, 43, 44, 45, 46, 47, 48, 49, 50, 51, 52, 53, 54, 55, 56, 57, 58, 59, 60, 110, 111, 112, 113, 140, 141, 142, 143, 144, 145, 146, 136, 137, 138, 139] (by decide +kernel) (by decide +kernel)
set_option maxRecDepth 20000 in
theorem gX5_check_X3_append : GoodIn wsX5_check (wsV RX5 121 RX3 yX3_append wsX3_append) := goodIn_app (goodIn_of _ (by decide +kernel)) ggX5_check_X3_append
theorem dX5_check_0 : decode cX5_check 0 = .ok (.aload_n 0, 1) := by decide +kernel
theorem dX5_check_1 : decode cX5_check 1 = .ok (.getfield 49, 3) := by decide +kernel
theorem dX5_check_4 : decode cX5_check 4 = .ok (.iload_n 1, 1) := by decide +kernel
theorem dX5_check_5 : decode cX5_check 5 = .ok (.aaload, 1) := by decide +kernel
theorem dX5_check_6 : decode cX5_check 6 = .ok (.astore_n 3, 1) := by decide +kernel
theorem dX5_check_7 : decode cX5_check 7 = .ok (.aload_n 0, 1) := by decide +kernel
theorem dX5_check_8 : decode cX5_check 8 = .ok (.aload_n 3, 1) := by decide +kernel
theorem dX5_check_9 : decode cX5_check 9 = .ok (.getfield 103, 3) := by decide +kernel
theorem dX5_check_12 : decode cX5_check 12 = .ok (.aload_n 3, 1) := by decide +kernel
theorem dX5_check_13 : decode cX5_check 13 = .ok (.invokevirtual 162, 3) := by decide +kernel
theorem dX5_check_16 : decode cX5_check 16 = .ok (.istore 4, 2) := by decide +kernel
theorem dX5_check_18 : decode cX5_check 18 = .ok (.iload 4, 2) := by decide +kernel
theorem dX5_check_20 : decode cX5_check 20 = .ok (.ifCond .eq 8, 3) := by decide +kernel
theorem dX5_check_23 : decode cX5_check 23 = .ok (.aload_n 3, 1) := by decide +kernel
theorem dX5_check_24 : decode cX5_check 24 = .ok (.iload_n 2, 1) := by decide +kernel
theorem dX5_check_25 : decode cX5_check 25 = .ok (.putfield 173, 3) := by decide +kernel
theorem dX5_check_28 : decode cX5_check 28 = .ok (.aload_n 0, 1) := by decide +kernel
theorem dX5_check_29 : decode cX5_check 29 = .ok (.getfield 57, 3) := by decide +kernel
theorem dX5_check_32 : decode cX5_check 32 = .ok (.iload 4, 2) := by decide +kernel
theorem dX5_check_34 : decode cX5_check 34 = .ok (.ifCond .eq 7, 3) := by decide +kernel
theorem dX5_check_37 : decode cX5_check 37 = .ok (.iconst 1, 1) := by decide +kernel
theorem dX5_check_38 : decode cX5_check 38 = .ok (.goto 4, 3) := by decide +kernel
theorem dX5_check_41 : decode cX5_check 41 = .ok (.iconst 2, 1) := by decide +kernel
theorem dX5_check_42 : decode cX5_check 42 = .ok (.iload_n 1, 1) := by decide +kernel
theorem dX5_check_43 : decode cX5_check 43 = .ok (.iload_n 2, 1) := by decide +kernel
theorem dX5_check_44 : decode cX5_check 44 = .ok (.invokevirtual 121, 3) := by decide +kernel
theorem dX5_check_47 : decode cX5_check 47 = .ok (.iload 4, 2) := by decide +kernel
theorem dX5_check_49 : decode cX5_check 49 = .ok (.ireturn, 1) := by decide +kernel
set_option maxRecDepth 20000 in
theorem ggX5_longestWaiting_X0_isWaiting : GoodIn wsX5_longestWaiting wsX0_isWaiting := goodIn_r _ [7, 8, 9, 23, 24, 25, 26, 27, 28, 29, 30] (by decide +kernel) (by decide +kernel)
set_option maxRecDepth 20000 in
theorem gX5_longestWaiting_X0_isWaiting : GoodIn wsX5_longestWaiting (wsV RX5 206 RX0 yX0_isWaiting wsX0_isWaiting) := goodIn_app (goodIn_of _ (by decide +kernel)) ggX5_longestWaiting_X0_isWaiting
theorem dX5_longestWaiting_0 : decode cX5_longestWaiting 0 = .ok (.iconst (-1), 1) := by decide +kernel
theorem dX5_longestWaiting_1 : decode cX5_longestWaiting 1 = .ok (.istore_n 2, 1) := by decide +kernel
theorem dX5_longestWaiting_2 : decode cX5_longestWaiting 2 = .ok (.iload_n 1, 1) := by decide +kernel
theorem dX5_longestWaiting_3 : decode cX5_longestWaiting 3 = .ok (.istore_n 3, 1) := by decide +kernel
theorem dX5_longestWaiting_4 : decode cX5_longestWaiting 4 = .ok (.iconst 0, 1) := by decide +kernel
theorem dX5_longestWaiting_5 : decode cX5_longestWaiting 5 = .ok (.istore 4, 2) := by decide +kernel
theorem dX5_longestWaiting_7 : decode cX5_longestWaiting 7 = .ok (.iload 4, 2) := by decide +kernel
theorem dX5_longestWaiting_9 : decode cX5_longestWaiting 9 = .ok (.aload_n 0, 1) := by decide +kernel
theorem dX5_longestWaiting_10 : decode cX5_longestWaiting 10 = .ok (.getfield 100, 3) := by decide +kernel
theorem dX5_longestWaiting_13 : decode cX5_longestWaiting 13 = .ok (.if_icmp .ge 50, 3) := by decide +kernel
theorem dX5_longestWaiting_16 : decode cX5_longestWaiting 16 = .ok (.aload_n 0, 1) := by decide +kernel
theorem dX5_longestWaiting_17 : decode cX5_longestWaiting 17 = .ok (.getfield 49, 3) := by decide +kernel
theorem dX5_longestWaiting_20 : decode cX5_longestWaiting 20 = .ok (.iload 4, 2) := by decide +kernel
theorem dX5_longestWaiting_22 : decode cX5_longestWaiting 22 = .ok (.aaload, 1) := by decide +kernel
theorem dX5_longestWaiting_23 : decode cX5_longestWaiting 23 = .ok (.astore 5, 2) := by decide +kernel
theorem dX5_longestWaiting_25 : decode cX5_longestWaiting 25 = .ok (.aload 5, 2) := by decide +kernel
theorem dX5_longestWaiting_27 : decode cX5_longestWaiting 27 = .ok (.iload_n 1, 1) := by decide +kernel
theorem dX5_longestWaiting_28 : decode cX5_longestWaiting 28 = .ok (.invokevirtual 206, 3) := by decide +kernel
theorem dX5_longestWaiting_31 : decode cX5_longestWaiting 31 = .ok (.ifCond .eq 26, 3) := by decide +kernel
theorem dX5_longestWaiting_34 : decode cX5_longestWaiting 34 = .ok (.iload_n 2, 1) := by decide +kernel
theorem dX5_longestWaiting_35 : decode cX5_longestWaiting 35 = .ok (.iconst (-1), 1) := by decide +kernel
theorem dX5_longestWaiting_36 : decode cX5_longestWaiting 36 = .ok (.if_icmp .eq 12, 3) := by decide +kernel
theorem dX5_longestWaiting_39 : decode cX5_longestWaiting 39 = .ok (.aload 5, 2) := by decide +kernel
theorem dX5_longestWaiting_41 : decode cX5_longestWaiting 41 = .ok (.getfield 176, 3) := by decide +kernel
theorem dX5_longestWaiting_44 : decode cX5_longestWaiting 44 = .ok (.iload_n 3, 1) := by decide +kernel
theorem dX5_longestWaiting_45 : decode cX5_longestWaiting 45 = .ok (.if_icmp .ge 12, 3) := by decide +kernel
theorem dX5_longestWaiting_48 : decode cX5_longestWaiting 48 = .ok (.iload 4, 2) := by decide +kernel
theorem dX5_longestWaiting_50 : decode cX5_longestWaiting 50 = .ok (.istore_n 2, 1) := by decide +kernel
theorem dX5_longestWaiting_51 : decode cX5_longestWaiting 51 = .ok (.aload 5, 2) := by decide +kernel
theorem dX5_longestWaiting_53 : decode cX5_longestWaiting 53 = .ok (.getfield 176, 3) := by decide +kernel
theorem dX5_longestWaiting_56 : decode cX5_longestWaiting 56 = .ok (.istore_n 3, 1) := by decide +kernel
theorem dX5_longestWaiting_57 : decode cX5_longestWaiting 57 = .ok (.iinc 4 1, 3) := by decide +kernel
theorem dX5_longestWaiting_60 : decode cX5_longestWaiting 60 = .ok (.goto (-53), 3) := by decide +kernel
theorem dX5_longestWaiting_63 : decode cX5_longestWaiting 63 = .ok (.iload_n 2, 1) := by decide +kernel
theorem dX5_longestWaiting_64 : decode cX5_longestWaiting 64 = .ok (.ireturn, 1) := by decide +kernel
set_option maxRecDepth 20000 in
theorem ggX5_countWaiting_X0_isWaiting : GoodIn wsX5_countWaiting wsX0_isWaiting := goodIn_r _ [7, 8, 9, 23, 24, 25, 26, 27, 28, 29, 30] (by decide +kernel) (by decide +kernel)
set_option maxRecDepth 20000 in
theorem gX5_countWaiting_X0_isWaiting : GoodIn wsX5_countWaiting (wsV RX5 206 RX0 yX0_isWaiting wsX0_isWaiting) := goodIn_app (goodIn_of _ (by decide +kernel)) ggX5_countWaiting_X0_isWaiting
theorem dX5_countWaiting_0 : decode cX5_countWaiting 0 = .ok (.iconst 0, 1) := by decide +kernel
theorem dX5_countWaiting_1 : decode cX5_countWaiting 1 = .ok (.istore_n 2, 1) := by decide +kernel
theorem dX5_countWaiting_2 : decode cX5_countWaiting 2 = .ok (.iconst 0, 1) := by decide +kernel
theorem dX5_countWaiting_3 : decode cX5_countWaiting 3 = .ok (.istore_n 3, 1) := by decide +kernel
theorem dX5_countWaiting_4 : decode cX5_countWaiting 4 = .ok (.iload_n 3, 1) := by decide +kernel
theorem dX5_countWaiting_5 : decode cX5_countWaiting 5 = .ok (.aload_n 0, 1) := by decide +kernel
theorem dX5_countWaiting_6 : decode cX5_countWaiting 6 = .ok (.getfield 100, 3) := by decide +kernel
theorem dX5_countWaiting_9 : decode cX5_countWaiting 9 = .ok (.if_icmp .ge 25, 3) := by decide +kernel
theorem dX5_countWaiting_12 : decode cX5_countWaiting 12 = .ok (.aload_n 0, 1) := by decide +kernel
theorem dX5_countWaiting_13 : decode cX5_countWaiting 13 = .ok (.getfield 49, 3) := by decide +kernel
theorem dX5_countWaiting_16 : decode cX5_countWaiting 16 = .ok (.iload_n 3, 1) := by decide +kernel
theorem dX5_countWaiting_17 : decode cX5_countWaiting 17 = .ok (.aaload, 1) := by decide +kernel
theorem dX5_countWaiting_18 : decode cX5_countWaiting 18 = .ok (.iload_n 1, 1) := by decide +kernel
theorem dX5_countWaiting_19 : decode cX5_countWaiting 19 = .ok (.invokevirtual 206, 3) := by decide +kernel
theorem dX5_countWaiting_22 : decode cX5_countWaiting 22 = .ok (.ifCond .eq 6, 3) := by decide +kernel
theorem dX5_countWaiting_25 : decode cX5_countWaiting 25 = .ok (.iinc 2 1, 3) := by decide +kernel
theorem dX5_countWaiting_28 : decode cX5_countWaiting 28 = .ok (.iinc 3 1, 3) := by decide +kernel
theorem dX5_countWaiting_31 : decode cX5_countWaiting 31 = .ok (.goto (-27), 3) := by decide +kernel
theorem dX5_countWaiting_34 : decode cX5_countWaiting 34 = .ok (.iload_n 2, 1) := by decide +kernel
theorem dX5_countWaiting_35 : decode cX5_countWaiting 35 = .ok (.ireturn, 1) := by decide +kernel
set_option maxRecDepth 20000 in
theorem ggX5_firstCopyFor_X5_matches : GoodIn wsX5_firstCopyFor wsX5_matches := goodIn_r _ [7, 8, 9, 10, 11, 12, 13, 14, 15, 16, 17, 18, 19, 20, 21, 22, 23, 24, 25, 26, 27, 28, 29, 30, 31, 32, 33, 34, 35, 36, 37, 38, 39, 40, 41, 42, 43, 44, 45, 46, 47, 48, 49, 50, 51, 52, 53, 54, 55, 56, 57, 58, 59, 60, 61, 62, 63, 64, 78, 79, 80, 81, 82, 83, 84, 85, 65, 66, 67, 68, 69, 70, 71, 72, 73, 74, 75, 76, 77, 86, 87, 88, 89, 90] (by decide +kernel) (by decide +kernel)
set_option maxRecDepth 20000 in
theorem gX5_firstCopyFor_X5_matches : GoodIn wsX5_firstCopyFor (wsV RX5 162 RX5 yX5_matches wsX5_matches) := goodIn_app (goodIn_of _ (by decide +kernel)) ggX5_firstCopyFor_X5_matches
theorem dX5_firstCopyFor_0 : decode cX5_firstCopyFor 0 = .ok (.iconst 0, 1) := by decide +kernel
theorem dX5_firstCopyFor_1 : decode cX5_firstCopyFor 1 = .ok (.istore_n 2, 1) := by decide +kernel
theorem dX5_firstCopyFor_2 : decode cX5_firstCopyFor 2 = .ok (.iload_n 2, 1) := by decide +kernel
theorem dX5_firstCopyFor_3 : decode cX5_firstCopyFor 3 = .ok (.aload_n 0, 1) := by decide +kernel
theorem dX5_firstCopyFor_4 : decode cX5_firstCopyFor 4 = .ok (.getfield 100, 3) := by decide +kernel
theorem dX5_firstCopyFor_7 : decode cX5_firstCopyFor 7 = .ok (.if_icmp .ge 42, 3) := by decide +kernel
theorem dX5_firstCopyFor_10 : decode cX5_firstCopyFor 10 = .ok (.aload_n 0, 1) := by decide +kernel
theorem dX5_firstCopyFor_11 : decode cX5_firstCopyFor 11 = .ok (.getfield 49, 3) := by decide +kernel
theorem dX5_firstCopyFor_14 : decode cX5_firstCopyFor 14 = .ok (.iload_n 2, 1) := by decide +kernel
theorem dX5_firstCopyFor_15 : decode cX5_firstCopyFor 15 = .ok (.aaload, 1) := by decide +kernel
theorem dX5_firstCopyFor_16 : decode cX5_firstCopyFor 16 = .ok (.astore_n 3, 1) := by decide +kernel
theorem dX5_firstCopyFor_17 : decode cX5_firstCopyFor 17 = .ok (.aload_n 0, 1) := by decide +kernel
theorem dX5_firstCopyFor_18 : decode cX5_firstCopyFor 18 = .ok (.aload_n 3, 1) := by decide +kernel
theorem dX5_firstCopyFor_19 : decode cX5_firstCopyFor 19 = .ok (.getfield 103, 3) := by decide +kernel
theorem dX5_firstCopyFor_22 : decode cX5_firstCopyFor 22 = .ok (.aload_n 3, 1) := by decide +kernel
theorem dX5_firstCopyFor_23 : decode cX5_firstCopyFor 23 = .ok (.invokevirtual 162, 3) := by decide +kernel
theorem dX5_firstCopyFor_26 : decode cX5_firstCopyFor 26 = .ok (.ifCond .eq 17, 3) := by decide +kernel
theorem dX5_firstCopyFor_29 : decode cX5_firstCopyFor 29 = .ok (.aload_n 0, 1) := by decide +kernel
theorem dX5_firstCopyFor_30 : decode cX5_firstCopyFor 30 = .ok (.aload_n 3, 1) := by decide +kernel
theorem dX5_firstCopyFor_31 : decode cX5_firstCopyFor 31 = .ok (.getfield 103, 3) := by decide +kernel
theorem dX5_firstCopyFor_34 : decode cX5_firstCopyFor 34 = .ok (.aload_n 1, 1) := by decide +kernel
theorem dX5_firstCopyFor_35 : decode cX5_firstCopyFor 35 = .ok (.invokevirtual 162, 3) := by decide +kernel
theorem dX5_firstCopyFor_38 : decode cX5_firstCopyFor 38 = .ok (.ifCond .eq 5, 3) := by decide +kernel
theorem dX5_firstCopyFor_41 : decode cX5_firstCopyFor 41 = .ok (.iload_n 2, 1) := by decide +kernel
theorem dX5_firstCopyFor_42 : decode cX5_firstCopyFor 42 = .ok (.ireturn, 1) := by decide +kernel
theorem dX5_firstCopyFor_43 : decode cX5_firstCopyFor 43 = .ok (.iinc 2 1, 3) := by decide +kernel
theorem dX5_firstCopyFor_46 : decode cX5_firstCopyFor 46 = .ok (.goto (-44), 3) := by decide +kernel
theorem dX5_firstCopyFor_49 : decode cX5_firstCopyFor 49 = .ok (.iconst (-1), 1) := by decide +kernel
theorem dX5_firstCopyFor_50 : decode cX5_firstCopyFor 50 = .ok (.ireturn, 1) := by decide +kernel
