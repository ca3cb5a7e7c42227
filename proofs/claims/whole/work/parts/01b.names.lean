set_option maxRecDepth 20000 in
theorem ggX0_init_X5_init : GoodIn wsX0_init wsX5_init := goodIn_r _ [3, 4, 5, 6] (by decide +kernel) (by decide +kernel)
set_option maxRecDepth 20000 in
theorem gX0_init_X5_init_n1 : GoodIn wsX0_init (wsX5_init) := ggX0_init_X5_init
theorem dX0_init_0 : decode cX0_init 0 = .ok (.aload_n 0, 1) := by decide +kernel
theorem dX0_init_1 : decode cX0_init 1 = .ok (.invokespecial 1, 3) := by decide +kernel
theorem dX0_init_4 : decode cX0_init 4 = .ok (.return_, 1) := by decide +kernel
set_option maxRecDepth 20000 in
theorem ggX0_valueOf_X5_valueOf : GoodIn wsX0_valueOf wsX5_valueOf := goodIn_r _ [7, 8, 9, 10, 11, 12, 13, 14, 15, 16, 17, 18, 24, 25, 26, 27, 28, 29, 30, 31, 32, 33, 34, 35, 36, 37, 38, 39, 40, 41, 42, 43] (by decide +kernel) (by decide +kernel)
set_option maxRecDepth 20000 in
theorem gX0_valueOf_X5_valueOf_s15 : GoodIn wsX0_valueOf (va_wsSU RX0 15 yX5_valueOf wsX5_valueOf) := goodIn_app (goodIn_of _ (by decide +kernel)) ggX0_valueOf_X5_valueOf
set_option maxRecDepth 20000 in
theorem ggX0_valueOf_X6_whoOf : GoodIn wsX0_valueOf wsX6_whoOf := goodIn_r _ [22, 23, 14, 15, 16, 11, 17, 18, 35, 36, 37, 38, 39, 40, 41, 42, 43] (by decide +kernel) (by decide +kernel)
set_option maxRecDepth 20000 in
theorem gX0_valueOf_X6_whoOf : GoodIn wsX0_valueOf (wsV RX0 23 RX6 yX6_whoOf wsX6_whoOf) := goodIn_app (goodIn_of _ (by decide +kernel)) ggX0_valueOf_X6_whoOf
theorem dX0_valueOf_0 : decode cX0_valueOf 0 = .ok (.aload_n 1, 1) := by decide +kernel
theorem dX0_valueOf_1 : decode cX0_valueOf 1 = .ok (.dup, 1) := by decide +kernel
theorem dX0_valueOf_2 : decode cX0_valueOf 2 = .ok (.getfield 7, 3) := by decide +kernel
theorem dX0_valueOf_5 : decode cX0_valueOf 5 = .ok (.ldc2_w 13, 3) := by decide +kernel
theorem dX0_valueOf_8 : decode cX0_valueOf 8 = .ok (.ladd, 1) := by decide +kernel
theorem dX0_valueOf_9 : decode cX0_valueOf 9 = .ok (.putfield 7, 3) := by decide +kernel
theorem dX0_valueOf_12 : decode cX0_valueOf 12 = .ok (.aload_n 0, 1) := by decide +kernel
theorem dX0_valueOf_13 : decode cX0_valueOf 13 = .ok (.aload_n 1, 1) := by decide +kernel
theorem dX0_valueOf_14 : decode cX0_valueOf 14 = .ok (.iload_n 2, 1) := by decide +kernel
theorem dX0_valueOf_15 : decode cX0_valueOf 15 = .ok (.invokespecial 15, 3) := by decide +kernel
theorem dX0_valueOf_18 : decode cX0_valueOf 18 = .ok (.aload_n 1, 1) := by decide +kernel
theorem dX0_valueOf_19 : decode cX0_valueOf 19 = .ok (.getfield 19, 3) := by decide +kernel
theorem dX0_valueOf_22 : decode cX0_valueOf 22 = .ok (.iload_n 2, 1) := by decide +kernel
theorem dX0_valueOf_23 : decode cX0_valueOf 23 = .ok (.invokevirtual 23, 3) := by decide +kernel
theorem dX0_valueOf_26 : decode cX0_valueOf 26 = .ok (.isub, 1) := by decide +kernel
theorem dX0_valueOf_27 : decode cX0_valueOf 27 = .ok (.ireturn, 1) := by decide +kernel
set_option maxRecDepth 20000 in
theorem ggX1_init_X5_init : GoodIn wsX1_init wsX5_init := goodIn_r _ [3, 4, 5, 6] (by decide +kernel) (by decide +kernel)
set_option maxRecDepth 20000 in
theorem gX1_init_X5_init_n1 : GoodIn wsX1_init (wsX5_init) := ggX1_init_X5_init
theorem dX1_init_0 : decode cX1_init 0 = .ok (.aload_n 0, 1) := by decide +kernel
theorem dX1_init_1 : decode cX1_init 1 = .ok (.invokespecial 1, 3) := by decide +kernel
theorem dX1_init_4 : decode cX1_init 4 = .ok (.return_, 1) := by decide +kernel
set_option maxRecDepth 20000 in
theorem ggX1_valueOf_X5_valueOf : GoodIn wsX1_valueOf wsX5_valueOf := goodIn_r _ [8, 9, 10, 11, 12, 13, 14, 15, 16, 17, 18, 19, 20, 21, 22, 23, 24, 25, 26, 27, 28, 29, 30, 38, 39, 40, 41, 42, 43, 44, 45, 46] (by decide +kernel) (by decide +kernel)
set_option maxRecDepth 20000 in
theorem gX1_valueOf_X5_valueOf_s15 : GoodIn wsX1_valueOf (va_wsSU RX1 15 yX5_valueOf wsX5_valueOf) := goodIn_app (goodIn_of _ (by decide +kernel)) ggX1_valueOf_X5_valueOf
theorem dX1_valueOf_0 : decode cX1_valueOf 0 = .ok (.aload_n 1, 1) := by decide +kernel
theorem dX1_valueOf_1 : decode cX1_valueOf 1 = .ok (.dup, 1) := by decide +kernel
theorem dX1_valueOf_2 : decode cX1_valueOf 2 = .ok (.getfield 7, 3) := by decide +kernel
theorem dX1_valueOf_5 : decode cX1_valueOf 5 = .ok (.ldc2_w 13, 3) := by decide +kernel
theorem dX1_valueOf_8 : decode cX1_valueOf 8 = .ok (.ladd, 1) := by decide +kernel
theorem dX1_valueOf_9 : decode cX1_valueOf 9 = .ok (.putfield 7, 3) := by decide +kernel
theorem dX1_valueOf_12 : decode cX1_valueOf 12 = .ok (.aload_n 0, 1) := by decide +kernel
theorem dX1_valueOf_13 : decode cX1_valueOf 13 = .ok (.aload_n 1, 1) := by decide +kernel
theorem dX1_valueOf_14 : decode cX1_valueOf 14 = .ok (.iload_n 2, 1) := by decide +kernel
theorem dX1_valueOf_15 : decode cX1_valueOf 15 = .ok (.invokespecial 15, 3) := by decide +kernel
theorem dX1_valueOf_18 : decode cX1_valueOf 18 = .ok (.aload_n 1, 1) := by decide +kernel
theorem dX1_valueOf_19 : decode cX1_valueOf 19 = .ok (.getfield 19, 3) := by decide +kernel
theorem dX1_valueOf_22 : decode cX1_valueOf 22 = .ok (.getfield 23, 3) := by decide +kernel
theorem dX1_valueOf_25 : decode cX1_valueOf 25 = .ok (.iadd, 1) := by decide +kernel
theorem dX1_valueOf_26 : decode cX1_valueOf 26 = .ok (.ireturn, 1) := by decide +kernel
theorem dX2_init_0 : decode cX2_init 0 = .ok (.aload_n 0, 1) := by decide +kernel
theorem dX2_init_1 : decode cX2_init 1 = .ok (.invokespecial 1, 3) := by decide +kernel
theorem dX2_init_4 : decode cX2_init 4 = .ok (.aload_n 0, 1) := by decide +kernel
theorem dX2_init_5 : decode cX2_init 5 = .ok (.bipush 50, 2) := by decide +kernel
theorem dX2_init_7 : decode cX2_init 7 = .ok (.newarray .int, 2) := by decide +kernel
theorem dX2_init_9 : decode cX2_init 9 = .ok (.putfield 9, 3) := by decide +kernel
theorem dX2_init_12 : decode cX2_init 12 = .ok (.return_, 1) := by decide +kernel
theorem dX2_begin_0 : decode cX2_begin 0 = .ok (.aload_n 0, 1) := by decide +kernel
theorem dX2_begin_1 : decode cX2_begin 1 = .ok (.iconst 0, 1) := by decide +kernel
theorem dX2_begin_2 : decode cX2_begin 2 = .ok (.putfield 13, 3) := by decide +kernel
theorem dX2_begin_5 : decode cX2_begin 5 = .ok (.aload_n 0, 1) := by decide +kernel
theorem dX2_begin_6 : decode cX2_begin 6 = .ok (.iconst 0, 1) := by decide +kernel
theorem dX2_begin_7 : decode cX2_begin 7 = .ok (.putfield 17, 3) := by decide +kernel
theorem dX2_begin_10 : decode cX2_begin 10 = .ok (.aload_n 0, 1) := by decide +kernel
theorem dX2_begin_11 : decode cX2_begin 11 = .ok (.iconst 0, 1) := by decide +kernel
theorem dX2_begin_12 : decode cX2_begin 12 = .ok (.putfield 20, 3) := by decide +kernel
theorem dX2_begin_15 : decode cX2_begin 15 = .ok (.aload_n 0, 1) := by decide +kernel
theorem dX2_begin_16 : decode cX2_begin 16 = .ok (.iconst 0, 1) := by decide +kernel
theorem dX2_begin_17 : decode cX2_begin 17 = .ok (.putfield 23, 3) := by decide +kernel
theorem dX2_begin_20 : decode cX2_begin 20 = .ok (.aload_n 0, 1) := by decide +kernel
theorem dX2_begin_21 : decode cX2_begin 21 = .ok (.iconst 0, 1) := by decide +kernel
theorem dX2_begin_22 : decode cX2_begin 22 = .ok (.putfield 26, 3) := by decide +kernel
theorem dX2_begin_25 : decode cX2_begin 25 = .ok (.aload_n 0, 1) := by decide +kernel
theorem dX2_begin_26 : decode cX2_begin 26 = .ok (.iconst 0, 1) := by decide +kernel
theorem dX2_begin_27 : decode cX2_begin 27 = .ok (.putfield 30, 3) := by decide +kernel
theorem dX2_begin_30 : decode cX2_begin 30 = .ok (.return_, 1) := by decide +kernel
theorem dX2_becomeLike_0 : decode cX2_becomeLike 0 = .ok (.aload_n 0, 1) := by decide +kernel
theorem dX2_becomeLike_1 : decode cX2_becomeLike 1 = .ok (.aload_n 1, 1) := by decide +kernel
theorem dX2_becomeLike_2 : decode cX2_becomeLike 2 = .ok (.getfield 13, 3) := by decide +kernel
theorem dX2_becomeLike_5 : decode cX2_becomeLike 5 = .ok (.putfield 13, 3) := by decide +kernel
theorem dX2_becomeLike_8 : decode cX2_becomeLike 8 = .ok (.aload_n 0, 1) := by decide +kernel
theorem dX2_becomeLike_9 : decode cX2_becomeLike 9 = .ok (.aload_n 1, 1) := by decide +kernel
theorem dX2_becomeLike_10 : decode cX2_becomeLike 10 = .ok (.getfield 17, 3) := by decide +kernel
theorem dX2_becomeLike_13 : decode cX2_becomeLike 13 = .ok (.putfield 17, 3) := by decide +kernel
theorem dX2_becomeLike_16 : decode cX2_becomeLike 16 = .ok (.aload_n 0, 1) := by decide +kernel
theorem dX2_becomeLike_17 : decode cX2_becomeLike 17 = .ok (.aload_n 1, 1) := by decide +kernel
theorem dX2_becomeLike_18 : decode cX2_becomeLike 18 = .ok (.getfield 20, 3) := by decide +kernel
theorem dX2_becomeLike_21 : decode cX2_becomeLike 21 = .ok (.putfield 20, 3) := by decide +kernel
theorem dX2_becomeLike_24 : decode cX2_becomeLike 24 = .ok (.aload_n 0, 1) := by decide +kernel
theorem dX2_becomeLike_25 : decode cX2_becomeLike 25 = .ok (.aload_n 1, 1) := by decide +kernel
theorem dX2_becomeLike_26 : decode cX2_becomeLike 26 = .ok (.getfield 23, 3) := by decide +kernel
theorem dX2_becomeLike_29 : decode cX2_becomeLike 29 = .ok (.putfield 23, 3) := by decide +kernel
theorem dX2_becomeLike_32 : decode cX2_becomeLike 32 = .ok (.aload_n 0, 1) := by decide +kernel
theorem dX2_becomeLike_33 : decode cX2_becomeLike 33 = .ok (.aload_n 1, 1) := by decide +kernel
theorem dX2_becomeLike_34 : decode cX2_becomeLike 34 = .ok (.getfield 26, 3) := by decide +kernel
theorem dX2_becomeLike_37 : decode cX2_becomeLike 37 = .ok (.putfield 26, 3) := by decide +kernel
theorem dX2_becomeLike_40 : decode cX2_becomeLike 40 = .ok (.aload_n 0, 1) := by decide +kernel
theorem dX2_becomeLike_41 : decode cX2_becomeLike 41 = .ok (.aload_n 1, 1) := by decide +kernel
theorem dX2_becomeLike_42 : decode cX2_becomeLike 42 = .ok (.getfield 30, 3) := by decide +kernel
theorem dX2_becomeLike_45 : decode cX2_becomeLike 45 = .ok (.putfield 30, 3) := by decide +kernel
theorem dX2_becomeLike_48 : decode cX2_becomeLike 48 = .ok (.aload_n 1, 1) := by decide +kernel
theorem dX2_becomeLike_49 : decode cX2_becomeLike 49 = .ok (.getfield 9, 3) := by decide +kernel
theorem dX2_becomeLike_52 : decode cX2_becomeLike 52 = .ok (.iconst 0, 1) := by decide +kernel
theorem dX2_becomeLike_53 : decode cX2_becomeLike 53 = .ok (.aload_n 0, 1) := by decide +kernel
theorem dX2_becomeLike_54 : decode cX2_becomeLike 54 = .ok (.getfield 9, 3) := by decide +kernel
theorem dX2_becomeLike_57 : decode cX2_becomeLike 57 = .ok (.iconst 0, 1) := by decide +kernel
theorem dX2_becomeLike_58 : decode cX2_becomeLike 58 = .ok (.bipush 50, 2) := by decide +kernel
theorem dX2_becomeLike_60 : decode cX2_becomeLike 60 = .ok (.invokestatic 33, 3) := by decide +kernel
theorem dX2_becomeLike_63 : decode cX2_becomeLike 63 = .ok (.return_, 1) := by decide +kernel
set_option maxRecDepth 20000 in
theorem ggX2_remember_X11_oneIf : GoodIn wsX2_remember wsX11_oneIf := goodIn_r _ [14] (by decide +kernel) (by decide +kernel)
set_option maxRecDepth 20000 in
theorem gX2_remember_X11_oneIf_n39 : GoodIn wsX2_remember (wsX11_oneIf) := ggX2_remember_X11_oneIf
theorem dX2_remember_0 : decode cX2_remember 0 = .ok (.aload_n 0, 1) := by decide +kernel
theorem dX2_remember_1 : decode cX2_remember 1 = .ok (.getfield 30, 3) := by decide +kernel
theorem dX2_remember_4 : decode cX2_remember 4 = .ok (.bipush 10, 2) := by decide +kernel
theorem dX2_remember_6 : decode cX2_remember 6 = .ok (.if_icmp .lt 24, 3) := by decide +kernel
theorem dX2_remember_9 : decode cX2_remember 9 = .ok (.aload_n 0, 1) := by decide +kernel
theorem dX2_remember_10 : decode cX2_remember 10 = .ok (.getfield 9, 3) := by decide +kernel
theorem dX2_remember_13 : decode cX2_remember 13 = .ok (.iconst 5, 1) := by decide +kernel
theorem dX2_remember_14 : decode cX2_remember 14 = .ok (.aload_n 0, 1) := by decide +kernel
theorem dX2_remember_15 : decode cX2_remember 15 = .ok (.getfield 9, 3) := by decide +kernel
theorem dX2_remember_18 : decode cX2_remember 18 = .ok (.iconst 0, 1) := by decide +kernel
theorem dX2_remember_19 : decode cX2_remember 19 = .ok (.bipush 45, 2) := by decide +kernel
theorem dX2_remember_21 : decode cX2_remember 21 = .ok (.invokestatic 33, 3) := by decide +kernel
theorem dX2_remember_24 : decode cX2_remember 24 = .ok (.aload_n 0, 1) := by decide +kernel
theorem dX2_remember_25 : decode cX2_remember 25 = .ok (.bipush 9, 2) := by decide +kernel
theorem dX2_remember_27 : decode cX2_remember 27 = .ok (.putfield 30, 3) := by decide +kernel
theorem dX2_remember_30 : decode cX2_remember 30 = .ok (.aload_n 0, 1) := by decide +kernel
theorem dX2_remember_31 : decode cX2_remember 31 = .ok (.getfield 30, 3) := by decide +kernel
theorem dX2_remember_34 : decode cX2_remember 34 = .ok (.iconst 5, 1) := by decide +kernel
theorem dX2_remember_35 : decode cX2_remember 35 = .ok (.imul, 1) := by decide +kernel
theorem dX2_remember_36 : decode cX2_remember 36 = .ok (.istore_n 1, 1) := by decide +kernel
theorem dX2_remember_37 : decode cX2_remember 37 = .ok (.iload_n 1, 1) := by decide +kernel
theorem dX2_remember_38 : decode cX2_remember 38 = .ok (.ifCond .lt 85, 3) := by decide +kernel
theorem dX2_remember_41 : decode cX2_remember 41 = .ok (.iload_n 1, 1) := by decide +kernel
theorem dX2_remember_42 : decode cX2_remember 42 = .ok (.iconst 5, 1) := by decide +kernel
theorem dX2_remember_43 : decode cX2_remember 43 = .ok (.iadd, 1) := by decide +kernel
theorem dX2_remember_44 : decode cX2_remember 44 = .ok (.aload_n 0, 1) := by decide +kernel
theorem dX2_remember_45 : decode cX2_remember 45 = .ok (.getfield 9, 3) := by decide +kernel
theorem dX2_remember_48 : decode cX2_remember 48 = .ok (.arraylength, 1) := by decide +kernel
theorem dX2_remember_49 : decode cX2_remember 49 = .ok (.if_icmp .gt 74, 3) := by decide +kernel
theorem dX2_remember_52 : decode cX2_remember 52 = .ok (.aload_n 0, 1) := by decide +kernel
theorem dX2_remember_53 : decode cX2_remember 53 = .ok (.getfield 9, 3) := by decide +kernel
theorem dX2_remember_56 : decode cX2_remember 56 = .ok (.iload_n 1, 1) := by decide +kernel
theorem dX2_remember_57 : decode cX2_remember 57 = .ok (.aload_n 0, 1) := by decide +kernel
theorem dX2_remember_58 : decode cX2_remember 58 = .ok (.getfield 13, 3) := by decide +kernel
theorem dX2_remember_61 : decode cX2_remember 61 = .ok (.iastore, 1) := by decide +kernel
theorem dX2_remember_62 : decode cX2_remember 62 = .ok (.aload_n 0, 1) := by decide +kernel
theorem dX2_remember_63 : decode cX2_remember 63 = .ok (.getfield 9, 3) := by decide +kernel
theorem dX2_remember_66 : decode cX2_remember 66 = .ok (.iload_n 1, 1) := by decide +kernel
theorem dX2_remember_67 : decode cX2_remember 67 = .ok (.iconst 1, 1) := by decide +kernel
theorem dX2_remember_68 : decode cX2_remember 68 = .ok (.iadd, 1) := by decide +kernel
theorem dX2_remember_69 : decode cX2_remember 69 = .ok (.aload_n 0, 1) := by decide +kernel
theorem dX2_remember_70 : decode cX2_remember 70 = .ok (.getfield 17, 3) := by decide +kernel
theorem dX2_remember_73 : decode cX2_remember 73 = .ok (.iastore, 1) := by decide +kernel
theorem dX2_remember_74 : decode cX2_remember 74 = .ok (.aload_n 0, 1) := by decide +kernel
theorem dX2_remember_75 : decode cX2_remember 75 = .ok (.getfield 9, 3) := by decide +kernel
theorem dX2_remember_78 : decode cX2_remember 78 = .ok (.iload_n 1, 1) := by decide +kernel
theorem dX2_remember_79 : decode cX2_remember 79 = .ok (.iconst 2, 1) := by decide +kernel
theorem dX2_remember_80 : decode cX2_remember 80 = .ok (.iadd, 1) := by decide +kernel
theorem dX2_remember_81 : decode cX2_remember 81 = .ok (.aload_n 0, 1) := by decide +kernel
theorem dX2_remember_82 : decode cX2_remember 82 = .ok (.getfield 20, 3) := by decide +kernel
theorem dX2_remember_85 : decode cX2_remember 85 = .ok (.iastore, 1) := by decide +kernel
theorem dX2_remember_86 : decode cX2_remember 86 = .ok (.aload_n 0, 1) := by decide +kernel
theorem dX2_remember_87 : decode cX2_remember 87 = .ok (.getfield 9, 3) := by decide +kernel
theorem dX2_remember_90 : decode cX2_remember 90 = .ok (.iload_n 1, 1) := by decide +kernel
theorem dX2_remember_91 : decode cX2_remember 91 = .ok (.iconst 3, 1) := by decide +kernel
theorem dX2_remember_92 : decode cX2_remember 92 = .ok (.iadd, 1) := by decide +kernel
theorem dX2_remember_93 : decode cX2_remember 93 = .ok (.aload_n 0, 1) := by decide +kernel
theorem dX2_remember_94 : decode cX2_remember 94 = .ok (.getfield 23, 3) := by decide +kernel
theorem dX2_remember_97 : decode cX2_remember 97 = .ok (.iastore, 1) := by decide +kernel
theorem dX2_remember_98 : decode cX2_remember 98 = .ok (.aload_n 0, 1) := by decide +kernel
theorem dX2_remember_99 : decode cX2_remember 99 = .ok (.getfield 9, 3) := by decide +kernel
theorem dX2_remember_102 : decode cX2_remember 102 = .ok (.iload_n 1, 1) := by decide +kernel
theorem dX2_remember_103 : decode cX2_remember 103 = .ok (.iconst 4, 1) := by decide +kernel
theorem dX2_remember_104 : decode cX2_remember 104 = .ok (.iadd, 1) := by decide +kernel
theorem dX2_remember_105 : decode cX2_remember 105 = .ok (.aload_n 0, 1) := by decide +kernel
theorem dX2_remember_106 : decode cX2_remember 106 = .ok (.getfield 26, 3) := by decide +kernel
theorem dX2_remember_109 : decode cX2_remember 109 = .ok (.invokestatic 39, 3) := by decide +kernel
theorem dX2_remember_112 : decode cX2_remember 112 = .ok (.iastore, 1) := by decide +kernel
theorem dX2_remember_113 : decode cX2_remember 113 = .ok (.aload_n 0, 1) := by decide +kernel
theorem dX2_remember_114 : decode cX2_remember 114 = .ok (.dup, 1) := by decide +kernel
theorem dX2_remember_115 : decode cX2_remember 115 = .ok (.getfield 30, 3) := by decide +kernel
theorem dX2_remember_118 : decode cX2_remember 118 = .ok (.iconst 1, 1) := by decide +kernel
theorem dX2_remember_119 : decode cX2_remember 119 = .ok (.iadd, 1) := by decide +kernel
theorem dX2_remember_120 : decode cX2_remember 120 = .ok (.putfield 30, 3) := by decide +kernel
theorem dX2_remember_123 : decode cX2_remember 123 = .ok (.return_, 1) := by decide +kernel
theorem dX2_recall_0 : decode cX2_recall 0 = .ok (.aload_n 0, 1) := by decide +kernel
theorem dX2_recall_1 : decode cX2_recall 1 = .ok (.getfield 30, 3) := by decide +kernel
theorem dX2_recall_4 : decode cX2_recall 4 = .ok (.iconst 1, 1) := by decide +kernel
theorem dX2_recall_5 : decode cX2_recall 5 = .ok (.isub, 1) := by decide +kernel
theorem dX2_recall_6 : decode cX2_recall 6 = .ok (.iconst 5, 1) := by decide +kernel
theorem dX2_recall_7 : decode cX2_recall 7 = .ok (.imul, 1) := by decide +kernel
theorem dX2_recall_8 : decode cX2_recall 8 = .ok (.istore_n 1, 1) := by decide +kernel
theorem dX2_recall_9 : decode cX2_recall 9 = .ok (.iload_n 1, 1) := by decide +kernel
theorem dX2_recall_10 : decode cX2_recall 10 = .ok (.ifCond .lt 91, 3) := by decide +kernel
theorem dX2_recall_13 : decode cX2_recall 13 = .ok (.iload_n 1, 1) := by decide +kernel
theorem dX2_recall_14 : decode cX2_recall 14 = .ok (.iconst 5, 1) := by decide +kernel
theorem dX2_recall_15 : decode cX2_recall 15 = .ok (.iadd, 1) := by decide +kernel
theorem dX2_recall_16 : decode cX2_recall 16 = .ok (.aload_n 0, 1) := by decide +kernel
theorem dX2_recall_17 : decode cX2_recall 17 = .ok (.getfield 9, 3) := by decide +kernel
theorem dX2_recall_20 : decode cX2_recall 20 = .ok (.arraylength, 1) := by decide +kernel
theorem dX2_recall_21 : decode cX2_recall 21 = .ok (.if_icmp .gt 80, 3) := by decide +kernel
theorem dX2_recall_24 : decode cX2_recall 24 = .ok (.aload_n 0, 1) := by decide +kernel
theorem dX2_recall_25 : decode cX2_recall 25 = .ok (.dup, 1) := by decide +kernel
theorem dX2_recall_26 : decode cX2_recall 26 = .ok (.getfield 30, 3) := by decide +kernel
theorem dX2_recall_29 : decode cX2_recall 29 = .ok (.iconst 1, 1) := by decide +kernel
theorem dX2_recall_30 : decode cX2_recall 30 = .ok (.isub, 1) := by decide +kernel
theorem dX2_recall_31 : decode cX2_recall 31 = .ok (.putfield 30, 3) := by decide +kernel
theorem dX2_recall_34 : decode cX2_recall 34 = .ok (.aload_n 0, 1) := by decide +kernel
theorem dX2_recall_35 : decode cX2_recall 35 = .ok (.aload_n 0, 1) := by decide +kernel
theorem dX2_recall_36 : decode cX2_recall 36 = .ok (.getfield 9, 3) := by decide +kernel
theorem dX2_recall_39 : decode cX2_recall 39 = .ok (.iload_n 1, 1) := by decide +kernel
theorem dX2_recall_40 : decode cX2_recall 40 = .ok (.iaload, 1) := by decide +kernel
theorem dX2_recall_41 : decode cX2_recall 41 = .ok (.putfield 13, 3) := by decide +kernel
theorem dX2_recall_44 : decode cX2_recall 44 = .ok (.aload_n 0, 1) := by decide +kernel
theorem dX2_recall_45 : decode cX2_recall 45 = .ok (.aload_n 0, 1) := by decide +kernel
theorem dX2_recall_46 : decode cX2_recall 46 = .ok (.getfield 9, 3) := by decide +kernel
theorem dX2_recall_49 : decode cX2_recall 49 = .ok (.iload_n 1, 1) := by decide +kernel
theorem dX2_recall_50 : decode cX2_recall 50 = .ok (.iconst 1, 1) := by decide +kernel
theorem dX2_recall_51 : decode cX2_recall 51 = .ok (.iadd, 1) := by decide +kernel
theorem dX2_recall_52 : decode cX2_recall 52 = .ok (.iaload, 1) := by decide +kernel
theorem dX2_recall_53 : decode cX2_recall 53 = .ok (.putfield 17, 3) := by decide +kernel
theorem dX2_recall_56 : decode cX2_recall 56 = .ok (.aload_n 0, 1) := by decide +kernel
theorem dX2_recall_57 : decode cX2_recall 57 = .ok (.aload_n 0, 1) := by decide +kernel
theorem dX2_recall_58 : decode cX2_recall 58 = .ok (.getfield 9, 3) := by decide +kernel
theorem dX2_recall_61 : decode cX2_recall 61 = .ok (.iload_n 1, 1) := by decide +kernel
theorem dX2_recall_62 : decode cX2_recall 62 = .ok (.iconst 2, 1) := by decide +kernel
theorem dX2_recall_63 : decode cX2_recall 63 = .ok (.iadd, 1) := by decide +kernel
theorem dX2_recall_64 : decode cX2_recall 64 = .ok (.iaload, 1) := by decide +kernel
theorem dX2_recall_65 : decode cX2_recall 65 = .ok (.putfield 20, 3) := by decide +kernel
theorem dX2_recall_68 : decode cX2_recall 68 = .ok (.aload_n 0, 1) := by decide +kernel
theorem dX2_recall_69 : decode cX2_recall 69 = .ok (.aload_n 0, 1) := by decide +kernel
theorem dX2_recall_70 : decode cX2_recall 70 = .ok (.getfield 9, 3) := by decide +kernel
theorem dX2_recall_73 : decode cX2_recall 73 = .ok (.iload_n 1, 1) := by decide +kernel
theorem dX2_recall_74 : decode cX2_recall 74 = .ok (.iconst 3, 1) := by decide +kernel
theorem dX2_recall_75 : decode cX2_recall 75 = .ok (.iadd, 1) := by decide +kernel
theorem dX2_recall_76 : decode cX2_recall 76 = .ok (.iaload, 1) := by decide +kernel
theorem dX2_recall_77 : decode cX2_recall 77 = .ok (.putfield 23, 3) := by decide +kernel
theorem dX2_recall_80 : decode cX2_recall 80 = .ok (.aload_n 0, 1) := by decide +kernel
theorem dX2_recall_81 : decode cX2_recall 81 = .ok (.aload_n 0, 1) := by decide +kernel
theorem dX2_recall_82 : decode cX2_recall 82 = .ok (.getfield 9, 3) := by decide +kernel
theorem dX2_recall_85 : decode cX2_recall 85 = .ok (.iload_n 1, 1) := by decide +kernel
theorem dX2_recall_86 : decode cX2_recall 86 = .ok (.iconst 4, 1) := by decide +kernel
theorem dX2_recall_87 : decode cX2_recall 87 = .ok (.iadd, 1) := by decide +kernel
theorem dX2_recall_88 : decode cX2_recall 88 = .ok (.iaload, 1) := by decide +kernel
theorem dX2_recall_89 : decode cX2_recall 89 = .ok (.iconst 1, 1) := by decide +kernel
theorem dX2_recall_90 : decode cX2_recall 90 = .ok (.if_icmp .ne 7, 3) := by decide +kernel
theorem dX2_recall_93 : decode cX2_recall 93 = .ok (.iconst 1, 1) := by decide +kernel
theorem dX2_recall_94 : decode cX2_recall 94 = .ok (.goto 4, 3) := by decide +kernel
theorem dX2_recall_97 : decode cX2_recall 97 = .ok (.iconst 0, 1) := by decide +kernel
theorem dX2_recall_98 : decode cX2_recall 98 = .ok (.putfield 26, 3) := by decide +kernel
theorem dX2_recall_101 : decode cX2_recall 101 = .ok (.return_, 1) := by decide +kernel
theorem dX3_init_0 : decode cX3_init 0 = .ok (.aload_n 0, 1) := by decide +kernel
theorem dX3_init_1 : decode cX3_init 1 = .ok (.invokespecial 3, 3) := by decide +kernel
theorem dX3_init_4 : decode cX3_init 4 = .ok (.aload_n 0, 1) := by decide +kernel
theorem dX3_init_5 : decode cX3_init 5 = .ok (.iconst 4, 1) := by decide +kernel
theorem dX3_init_6 : decode cX3_init 6 = .ok (.newarray .int, 2) := by decide +kernel
theorem dX3_init_8 : decode cX3_init 8 = .ok (.putfield 11, 3) := by decide +kernel
theorem dX3_init_11 : decode cX3_init 11 = .ok (.aload_n 0, 1) := by decide +kernel
theorem dX3_init_12 : decode cX3_init 12 = .ok (.iconst 4, 1) := by decide +kernel
theorem dX3_init_13 : decode cX3_init 13 = .ok (.newarray .int, 2) := by decide +kernel
theorem dX3_init_15 : decode cX3_init 15 = .ok (.putfield 15, 3) := by decide +kernel
theorem dX3_init_18 : decode cX3_init 18 = .ok (.aload_n 0, 1) := by decide +kernel
theorem dX3_init_19 : decode cX3_init 19 = .ok (.sipush 960, 3) := by decide +kernel
theorem dX3_init_22 : decode cX3_init 22 = .ok (.newarray .int, 2) := by decide +kernel
theorem dX3_init_24 : decode cX3_init 24 = .ok (.putfield 18, 3) := by decide +kernel
theorem dX3_init_27 : decode cX3_init 27 = .ok (.aload_n 0, 1) := by decide +kernel
theorem dX3_init_28 : decode cX3_init 28 = .ok (.sipush 961, 3) := by decide +kernel
theorem dX3_init_31 : decode cX3_init 31 = .ok (.newarray .int, 2) := by decide +kernel
theorem dX3_init_33 : decode cX3_init 33 = .ok (.putfield 21, 3) := by decide +kernel
theorem dX3_init_36 : decode cX3_init 36 = .ok (.aload_n 0, 1) := by decide +kernel
theorem dX3_init_37 : decode cX3_init 37 = .ok (.iconst 5, 1) := by decide +kernel
theorem dX3_init_38 : decode cX3_init 38 = .ok (.newarray .int, 2) := by decide +kernel
theorem dX3_init_40 : decode cX3_init 40 = .ok (.putfield 24, 3) := by decide +kernel
theorem dX3_init_43 : decode cX3_init 43 = .ok (.return_, 1) := by decide +kernel
theorem dX3_takes_0 : decode cX3_takes 0 = .ok (.aload_n 0, 1) := by decide +kernel
theorem dX3_takes_1 : decode cX3_takes 1 = .ok (.getfield 27, 3) := by decide +kernel
theorem dX3_takes_4 : decode cX3_takes 4 = .ok (.iconst 4, 1) := by decide +kernel
theorem dX3_takes_5 : decode cX3_takes 5 = .ok (.if_icmp .lt 5, 3) := by decide +kernel
theorem dX3_takes_8 : decode cX3_takes 8 = .ok (.iconst 0, 1) := by decide +kernel
theorem dX3_takes_9 : decode cX3_takes 9 = .ok (.ireturn, 1) := by decide +kernel
theorem dX3_takes_10 : decode cX3_takes 10 = .ok (.aload_n 0, 1) := by decide +kernel
theorem dX3_takes_11 : decode cX3_takes 11 = .ok (.getfield 11, 3) := by decide +kernel
theorem dX3_takes_14 : decode cX3_takes 14 = .ok (.aload_n 0, 1) := by decide +kernel
theorem dX3_takes_15 : decode cX3_takes 15 = .ok (.getfield 27, 3) := by decide +kernel
theorem dX3_takes_18 : decode cX3_takes 18 = .ok (.iload_n 1, 1) := by decide +kernel
theorem dX3_takes_19 : decode cX3_takes 19 = .ok (.iastore, 1) := by decide +kernel
theorem dX3_takes_20 : decode cX3_takes 20 = .ok (.aload_n 0, 1) := by decide +kernel
theorem dX3_takes_21 : decode cX3_takes 21 = .ok (.getfield 15, 3) := by decide +kernel
theorem dX3_takes_24 : decode cX3_takes 24 = .ok (.aload_n 0, 1) := by decide +kernel
theorem dX3_takes_25 : decode cX3_takes 25 = .ok (.getfield 27, 3) := by decide +kernel
theorem dX3_takes_28 : decode cX3_takes 28 = .ok (.iload_n 2, 1) := by decide +kernel
theorem dX3_takes_29 : decode cX3_takes 29 = .ok (.iastore, 1) := by decide +kernel
theorem dX3_takes_30 : decode cX3_takes 30 = .ok (.aload_n 0, 1) := by decide +kernel
theorem dX3_takes_31 : decode cX3_takes 31 = .ok (.dup, 1) := by decide +kernel
theorem dX3_takes_32 : decode cX3_takes 32 = .ok (.getfield 27, 3) := by decide +kernel
theorem dX3_takes_35 : decode cX3_takes 35 = .ok (.iconst 1, 1) := by decide +kernel
theorem dX3_takes_36 : decode cX3_takes 36 = .ok (.iadd, 1) := by decide +kernel
theorem dX3_takes_37 : decode cX3_takes 37 = .ok (.putfield 27, 3) := by decide +kernel
theorem dX3_takes_40 : decode cX3_takes 40 = .ok (.iconst 1, 1) := by decide +kernel
theorem dX3_takes_41 : decode cX3_takes 41 = .ok (.ireturn, 1) := by decide +kernel
set_option maxRecDepth 20000 in
theorem ggX3_findPlaces_X3_layOut : GoodIn wsX3_findPlaces wsX3_layOut := goodIn_r _ [7, 2, 8, 9, 10, 11, 12, 13, 14, 15, 16, 17, 18, 19, 20, 21, 22, 23, 24, 25, 26, 27, 28, 29, 39, 40, 41, 42, 43, 44, 45, 46, 47, 48, 49, 50, 51, 52, 53, 54] (by decide +kernel) (by decide +kernel)
set_option maxRecDepth 20000 in
theorem gX3_findPlaces_X3_layOut : GoodIn wsX3_findPlaces (wsV RX3 31 RX3 yX3_layOut wsX3_layOut) := goodIn_app (goodIn_of _ (by decide +kernel)) ggX3_findPlaces_X3_layOut
set_option maxRecDepth 20000 in
theorem ggX3_findPlaces_X3_isPlace : GoodIn wsX3_findPlaces wsX3_isPlace := goodIn_r _ [33, 34, 35, 2, 9, 36, 39, 40, 41, 42, 43, 44, 45] (by decide +kernel) (by decide +kernel)
set_option maxRecDepth 20000 in
theorem gX3_findPlaces_X3_isPlace : GoodIn wsX3_findPlaces (wsV RX3 38 RX3 yX3_isPlace wsX3_isPlace) := goodIn_app (goodIn_of _ (by decide +kernel)) ggX3_findPlaces_X3_isPlace
set_option maxRecDepth 20000 in
theorem ggX3_findPlaces_X11_oneIf : GoodIn wsX3_findPlaces wsX11_oneIf := goodIn_r _ [38] (by decide +kernel) (by decide +kernel)
set_option maxRecDepth 20000 in
theorem gX3_findPlaces_X11_oneIf_n42 : GoodIn wsX3_findPlaces (wsX11_oneIf) := ggX3_findPlaces_X11_oneIf
theorem dX3_findPlaces_0 : decode cX3_findPlaces 0 = .ok (.aload_n 0, 1) := by decide +kernel
theorem dX3_findPlaces_1 : decode cX3_findPlaces 1 = .ok (.aload_n 1, 1) := by decide +kernel
theorem dX3_findPlaces_2 : decode cX3_findPlaces 2 = .ok (.iload_n 2, 1) := by decide +kernel
theorem dX3_findPlaces_3 : decode cX3_findPlaces 3 = .ok (.invokevirtual 31, 3) := by decide +kernel
theorem dX3_findPlaces_6 : decode cX3_findPlaces 6 = .ok (.aload_n 0, 1) := by decide +kernel
theorem dX3_findPlaces_7 : decode cX3_findPlaces 7 = .ok (.getfield 21, 3) := by decide +kernel
theorem dX3_findPlaces_10 : decode cX3_findPlaces 10 = .ok (.iconst 0, 1) := by decide +kernel
theorem dX3_findPlaces_11 : decode cX3_findPlaces 11 = .ok (.iconst 0, 1) := by decide +kernel
theorem dX3_findPlaces_12 : decode cX3_findPlaces 12 = .ok (.iastore, 1) := by decide +kernel
theorem dX3_findPlaces_13 : decode cX3_findPlaces 13 = .ok (.iconst 0, 1) := by decide +kernel
theorem dX3_findPlaces_14 : decode cX3_findPlaces 14 = .ok (.istore_n 3, 1) := by decide +kernel
theorem dX3_findPlaces_15 : decode cX3_findPlaces 15 = .ok (.iload_n 3, 1) := by decide +kernel
theorem dX3_findPlaces_16 : decode cX3_findPlaces 16 = .ok (.aload_n 0, 1) := by decide +kernel
theorem dX3_findPlaces_17 : decode cX3_findPlaces 17 = .ok (.getfield 35, 3) := by decide +kernel
theorem dX3_findPlaces_20 : decode cX3_findPlaces 20 = .ok (.if_icmp .ge 39, 3) := by decide +kernel
theorem dX3_findPlaces_23 : decode cX3_findPlaces 23 = .ok (.iload_n 3, 1) := by decide +kernel
theorem dX3_findPlaces_24 : decode cX3_findPlaces 24 = .ok (.sipush 960, 3) := by decide +kernel
theorem dX3_findPlaces_27 : decode cX3_findPlaces 27 = .ok (.if_icmp .ge 32, 3) := by decide +kernel
theorem dX3_findPlaces_30 : decode cX3_findPlaces 30 = .ok (.aload_n 0, 1) := by decide +kernel
theorem dX3_findPlaces_31 : decode cX3_findPlaces 31 = .ok (.getfield 21, 3) := by decide +kernel
theorem dX3_findPlaces_34 : decode cX3_findPlaces 34 = .ok (.iload_n 3, 1) := by decide +kernel
theorem dX3_findPlaces_35 : decode cX3_findPlaces 35 = .ok (.iconst 1, 1) := by decide +kernel
theorem dX3_findPlaces_36 : decode cX3_findPlaces 36 = .ok (.iadd, 1) := by decide +kernel
theorem dX3_findPlaces_37 : decode cX3_findPlaces 37 = .ok (.aload_n 0, 1) := by decide +kernel
theorem dX3_findPlaces_38 : decode cX3_findPlaces 38 = .ok (.getfield 21, 3) := by decide +kernel
theorem dX3_findPlaces_41 : decode cX3_findPlaces 41 = .ok (.iload_n 3, 1) := by decide +kernel
theorem dX3_findPlaces_42 : decode cX3_findPlaces 42 = .ok (.iaload, 1) := by decide +kernel
theorem dX3_findPlaces_43 : decode cX3_findPlaces 43 = .ok (.aload_n 0, 1) := by decide +kernel
theorem dX3_findPlaces_44 : decode cX3_findPlaces 44 = .ok (.iload_n 3, 1) := by decide +kernel
theorem dX3_findPlaces_45 : decode cX3_findPlaces 45 = .ok (.invokevirtual 38, 3) := by decide +kernel
theorem dX3_findPlaces_48 : decode cX3_findPlaces 48 = .ok (.invokestatic 42, 3) := by decide +kernel
theorem dX3_findPlaces_51 : decode cX3_findPlaces 51 = .ok (.iadd, 1) := by decide +kernel
theorem dX3_findPlaces_52 : decode cX3_findPlaces 52 = .ok (.iastore, 1) := by decide +kernel
theorem dX3_findPlaces_53 : decode cX3_findPlaces 53 = .ok (.iinc 3 1, 3) := by decide +kernel
theorem dX3_findPlaces_56 : decode cX3_findPlaces 56 = .ok (.goto (-41), 3) := by decide +kernel
theorem dX3_findPlaces_59 : decode cX3_findPlaces 59 = .ok (.return_, 1) := by decide +kernel
set_option maxRecDepth 20000 in
theorem ggX3_layOut_X11_isIn : GoodIn wsX3_layOut wsX11_isIn := goodIn_r _ [6] (by decide +kernel) (by decide +kernel)
set_option maxRecDepth 20000 in
theorem gX3_layOut_X11_isIn_n51 : GoodIn wsX3_layOut (wsX11_isIn) := ggX3_layOut_X11_isIn
set_option maxRecDepth 20000 in
theorem ggX3_layOut_X6_barsOf : GoodIn wsX3_layOut wsX6_barsOf := goodIn_r _ [11, 12, 13, 14, 15, 16, 10, 17, 18, 31, 32, 33, 34, 35, 36, 37, 38, 39] (by decide +kernel) (by decide +kernel)
set_option maxRecDepth 20000 in
theorem gX3_layOut_X6_barsOf : GoodIn wsX3_layOut (wsV RX3 55 RX6 yX6_barsOf wsX6_barsOf) := goodIn_app (goodIn_of _ (by decide +kernel)) ggX3_layOut_X6_barsOf
set_option maxRecDepth 20000 in
theorem ggX3_layOut_X6_whoOf : GoodIn wsX3_layOut wsX6_whoOf := goodIn_r _ [22, 23, 14, 15, 16, 10, 17, 18, 31, 32, 33, 34, 35, 36, 37, 38, 39] (by decide +kernel) (by decide +kernel)
set_option maxRecDepth 20000 in
theorem gX3_layOut_X6_whoOf : GoodIn wsX3_layOut (wsV RX3 59 RX6 yX6_whoOf wsX6_whoOf) := goodIn_app (goodIn_of _ (by decide +kernel)) ggX3_layOut_X6_whoOf
theorem dX3_layOut_0 : decode cX3_layOut 0 = .ok (.aload_n 0, 1) := by decide +kernel
theorem dX3_layOut_1 : decode cX3_layOut 1 = .ok (.iconst 0, 1) := by decide +kernel
theorem dX3_layOut_2 : decode cX3_layOut 2 = .ok (.putfield 35, 3) := by decide +kernel
theorem dX3_layOut_5 : decode cX3_layOut 5 = .ok (.iconst 0, 1) := by decide +kernel
theorem dX3_layOut_6 : decode cX3_layOut 6 = .ok (.istore_n 3, 1) := by decide +kernel
theorem dX3_layOut_7 : decode cX3_layOut 7 = .ok (.iload_n 3, 1) := by decide +kernel
theorem dX3_layOut_8 : decode cX3_layOut 8 = .ok (.aload_n 1, 1) := by decide +kernel
theorem dX3_layOut_9 : decode cX3_layOut 9 = .ok (.getfield 46, 3) := by decide +kernel
theorem dX3_layOut_12 : decode cX3_layOut 12 = .ok (.if_icmp .ge 78, 3) := by decide +kernel
theorem dX3_layOut_15 : decode cX3_layOut 15 = .ok (.iload_n 2, 1) := by decide +kernel
theorem dX3_layOut_16 : decode cX3_layOut 16 = .ok (.iload_n 3, 1) := by decide +kernel
theorem dX3_layOut_17 : decode cX3_layOut 17 = .ok (.invokestatic 51, 3) := by decide +kernel
theorem dX3_layOut_20 : decode cX3_layOut 20 = .ok (.ifCond .eq 7, 3) := by decide +kernel
theorem dX3_layOut_23 : decode cX3_layOut 23 = .ok (.iconst 0, 1) := by decide +kernel
theorem dX3_layOut_24 : decode cX3_layOut 24 = .ok (.goto 8, 3) := by decide +kernel
theorem dX3_layOut_27 : decode cX3_layOut 27 = .ok (.aload_n 1, 1) := by decide +kernel
theorem dX3_layOut_28 : decode cX3_layOut 28 = .ok (.iload_n 3, 1) := by decide +kernel
theorem dX3_layOut_29 : decode cX3_layOut 29 = .ok (.invokevirtual 55, 3) := by decide +kernel
theorem dX3_layOut_32 : decode cX3_layOut 32 = .ok (.istore 4, 2) := by decide +kernel
theorem dX3_layOut_34 : decode cX3_layOut 34 = .ok (.iconst 0, 1) := by decide +kernel
theorem dX3_layOut_35 : decode cX3_layOut 35 = .ok (.istore 5, 2) := by decide +kernel
theorem dX3_layOut_37 : decode cX3_layOut 37 = .ok (.iload 5, 2) := by decide +kernel
theorem dX3_layOut_39 : decode cX3_layOut 39 = .ok (.iload 4, 2) := by decide +kernel
theorem dX3_layOut_41 : decode cX3_layOut 41 = .ok (.if_icmp .ge 43, 3) := by decide +kernel
theorem dX3_layOut_44 : decode cX3_layOut 44 = .ok (.aload_n 0, 1) := by decide +kernel
theorem dX3_layOut_45 : decode cX3_layOut 45 = .ok (.getfield 35, 3) := by decide +kernel
theorem dX3_layOut_48 : decode cX3_layOut 48 = .ok (.sipush 960, 3) := by decide +kernel
theorem dX3_layOut_51 : decode cX3_layOut 51 = .ok (.if_icmp .ge 33, 3) := by decide +kernel
theorem dX3_layOut_54 : decode cX3_layOut 54 = .ok (.aload_n 0, 1) := by decide +kernel
theorem dX3_layOut_55 : decode cX3_layOut 55 = .ok (.getfield 18, 3) := by decide +kernel
theorem dX3_layOut_58 : decode cX3_layOut 58 = .ok (.aload_n 0, 1) := by decide +kernel
theorem dX3_layOut_59 : decode cX3_layOut 59 = .ok (.getfield 35, 3) := by decide +kernel
theorem dX3_layOut_62 : decode cX3_layOut 62 = .ok (.aload_n 1, 1) := by decide +kernel
theorem dX3_layOut_63 : decode cX3_layOut 63 = .ok (.iload_n 3, 1) := by decide +kernel
theorem dX3_layOut_64 : decode cX3_layOut 64 = .ok (.invokevirtual 59, 3) := by decide +kernel
theorem dX3_layOut_67 : decode cX3_layOut 67 = .ok (.iastore, 1) := by decide +kernel
theorem dX3_layOut_68 : decode cX3_layOut 68 = .ok (.aload_n 0, 1) := by decide +kernel
theorem dX3_layOut_69 : decode cX3_layOut 69 = .ok (.dup, 1) := by decide +kernel
theorem dX3_layOut_70 : decode cX3_layOut 70 = .ok (.getfield 35, 3) := by decide +kernel
theorem dX3_layOut_73 : decode cX3_layOut 73 = .ok (.iconst 1, 1) := by decide +kernel
theorem dX3_layOut_74 : decode cX3_layOut 74 = .ok (.iadd, 1) := by decide +kernel
theorem dX3_layOut_75 : decode cX3_layOut 75 = .ok (.putfield 35, 3) := by decide +kernel
theorem dX3_layOut_78 : decode cX3_layOut 78 = .ok (.iinc 5 1, 3) := by decide +kernel
theorem dX3_layOut_81 : decode cX3_layOut 81 = .ok (.goto (-44), 3) := by decide +kernel
theorem dX3_layOut_84 : decode cX3_layOut 84 = .ok (.iinc 3 1, 3) := by decide +kernel
theorem dX3_layOut_87 : decode cX3_layOut 87 = .ok (.goto (-80), 3) := by decide +kernel
theorem dX3_layOut_90 : decode cX3_layOut 90 = .ok (.return_, 1) := by decide +kernel
theorem dX3_isPlace_0 : decode cX3_isPlace 0 = .ok (.iconst 0, 1) := by decide +kernel
theorem dX3_isPlace_1 : decode cX3_isPlace 1 = .ok (.istore_n 2, 1) := by decide +kernel
theorem dX3_isPlace_2 : decode cX3_isPlace 2 = .ok (.iload_n 2, 1) := by decide +kernel
theorem dX3_isPlace_3 : decode cX3_isPlace 3 = .ok (.aload_n 0, 1) := by decide +kernel
theorem dX3_isPlace_4 : decode cX3_isPlace 4 = .ok (.getfield 27, 3) := by decide +kernel
theorem dX3_isPlace_7 : decode cX3_isPlace 7 = .ok (.if_icmp .ge 52, 3) := by decide +kernel
theorem dX3_isPlace_10 : decode cX3_isPlace 10 = .ok (.iload_n 2, 1) := by decide +kernel
theorem dX3_isPlace_11 : decode cX3_isPlace 11 = .ok (.iconst 4, 1) := by decide +kernel
theorem dX3_isPlace_12 : decode cX3_isPlace 12 = .ok (.if_icmp .ge 47, 3) := by decide +kernel
theorem dX3_isPlace_15 : decode cX3_isPlace 15 = .ok (.iload_n 1, 1) := by decide +kernel
theorem dX3_isPlace_16 : decode cX3_isPlace 16 = .ok (.aload_n 0, 1) := by decide +kernel
theorem dX3_isPlace_17 : decode cX3_isPlace 17 = .ok (.getfield 11, 3) := by decide +kernel
theorem dX3_isPlace_20 : decode cX3_isPlace 20 = .ok (.iload_n 2, 1) := by decide +kernel
theorem dX3_isPlace_21 : decode cX3_isPlace 21 = .ok (.iaload, 1) := by decide +kernel
theorem dX3_isPlace_22 : decode cX3_isPlace 22 = .ok (.iadd, 1) := by decide +kernel
theorem dX3_isPlace_23 : decode cX3_isPlace 23 = .ok (.istore_n 3, 1) := by decide +kernel
theorem dX3_isPlace_24 : decode cX3_isPlace 24 = .ok (.iload_n 3, 1) := by decide +kernel
theorem dX3_isPlace_25 : decode cX3_isPlace 25 = .ok (.ifCond .lt 26, 3) := by decide +kernel
theorem dX3_isPlace_28 : decode cX3_isPlace 28 = .ok (.iload_n 3, 1) := by decide +kernel
theorem dX3_isPlace_29 : decode cX3_isPlace 29 = .ok (.aload_n 0, 1) := by decide +kernel
theorem dX3_isPlace_30 : decode cX3_isPlace 30 = .ok (.getfield 35, 3) := by decide +kernel
theorem dX3_isPlace_33 : decode cX3_isPlace 33 = .ok (.if_icmp .ge 18, 3) := by decide +kernel
theorem dX3_isPlace_36 : decode cX3_isPlace 36 = .ok (.aload_n 0, 1) := by decide +kernel
theorem dX3_isPlace_37 : decode cX3_isPlace 37 = .ok (.getfield 18, 3) := by decide +kernel
theorem dX3_isPlace_40 : decode cX3_isPlace 40 = .ok (.iload_n 3, 1) := by decide +kernel
theorem dX3_isPlace_41 : decode cX3_isPlace 41 = .ok (.iaload, 1) := by decide +kernel
theorem dX3_isPlace_42 : decode cX3_isPlace 42 = .ok (.aload_n 0, 1) := by decide +kernel
theorem dX3_isPlace_43 : decode cX3_isPlace 43 = .ok (.getfield 15, 3) := by decide +kernel
theorem dX3_isPlace_46 : decode cX3_isPlace 46 = .ok (.iload_n 2, 1) := by decide +kernel
theorem dX3_isPlace_47 : decode cX3_isPlace 47 = .ok (.iaload, 1) := by decide +kernel
theorem dX3_isPlace_48 : decode cX3_isPlace 48 = .ok (.if_icmp .eq 5, 3) := by decide +kernel
theorem dX3_isPlace_51 : decode cX3_isPlace 51 = .ok (.iconst 0, 1) := by decide +kernel
theorem dX3_isPlace_52 : decode cX3_isPlace 52 = .ok (.ireturn, 1) := by decide +kernel
theorem dX3_isPlace_53 : decode cX3_isPlace 53 = .ok (.iinc 2 1, 3) := by decide +kernel
theorem dX3_isPlace_56 : decode cX3_isPlace 56 = .ok (.goto (-54), 3) := by decide +kernel
theorem dX3_isPlace_59 : decode cX3_isPlace 59 = .ok (.iconst 1, 1) := by decide +kernel
theorem dX3_isPlace_60 : decode cX3_isPlace 60 = .ok (.ireturn, 1) := by decide +kernel
set_option maxRecDepth 20000 in
theorem ggX3_placesInAll_X3_placesAheadOf : GoodIn wsX3_placesInAll wsX3_placesAheadOf := goodIn_r _ [6, 1, 7, 8, 9, 10, 11, 12, 13, 14, 15, 16, 17, 18, 19, 20, 21] (by decide +kernel) (by decide +kernel)
set_option maxRecDepth 20000 in
theorem gX3_placesInAll_X3_placesAheadOf : GoodIn wsX3_placesInAll (wsV RX3 62 RX3 yX3_placesAheadOf wsX3_placesAheadOf) := goodIn_app (goodIn_of _ (by decide +kernel)) ggX3_placesInAll_X3_placesAheadOf
theorem dX3_placesInAll_0 : decode cX3_placesInAll 0 = .ok (.aload_n 0, 1) := by decide +kernel
theorem dX3_placesInAll_1 : decode cX3_placesInAll 1 = .ok (.aload_n 0, 1) := by decide +kernel
theorem dX3_placesInAll_2 : decode cX3_placesInAll 2 = .ok (.getfield 35, 3) := by decide +kernel
theorem dX3_placesInAll_5 : decode cX3_placesInAll 5 = .ok (.invokevirtual 62, 3) := by decide +kernel
theorem dX3_placesInAll_8 : decode cX3_placesInAll 8 = .ok (.ireturn, 1) := by decide +kernel
theorem dX3_placesAheadOf_0 : decode cX3_placesAheadOf 0 = .ok (.iconst 0, 1) := by decide +kernel
theorem dX3_placesAheadOf_1 : decode cX3_placesAheadOf 1 = .ok (.iload_n 1, 1) := by decide +kernel
theorem dX3_placesAheadOf_2 : decode cX3_placesAheadOf 2 = .ok (.aload_n 0, 1) := by decide +kernel
theorem dX3_placesAheadOf_3 : decode cX3_placesAheadOf 3 = .ok (.getfield 35, 3) := by decide +kernel
theorem dX3_placesAheadOf_6 : decode cX3_placesAheadOf 6 = .ok (.invokestatic 65, 3) := by decide +kernel
theorem dX3_placesAheadOf_9 : decode cX3_placesAheadOf 9 = .ok (.invokestatic 71, 3) := by decide +kernel
theorem dX3_placesAheadOf_12 : decode cX3_placesAheadOf 12 = .ok (.istore_n 2, 1) := by decide +kernel
theorem dX3_placesAheadOf_13 : decode cX3_placesAheadOf 13 = .ok (.iload_n 2, 1) := by decide +kernel
theorem dX3_placesAheadOf_14 : decode cX3_placesAheadOf 14 = .ok (.sipush 960, 3) := by decide +kernel
theorem dX3_placesAheadOf_17 : decode cX3_placesAheadOf 17 = .ok (.if_icmp .gt 12, 3) := by decide +kernel
theorem dX3_placesAheadOf_20 : decode cX3_placesAheadOf 20 = .ok (.aload_n 0, 1) := by decide +kernel
theorem dX3_placesAheadOf_21 : decode cX3_placesAheadOf 21 = .ok (.getfield 21, 3) := by decide +kernel
theorem dX3_placesAheadOf_24 : decode cX3_placesAheadOf 24 = .ok (.iload_n 2, 1) := by decide +kernel
theorem dX3_placesAheadOf_25 : decode cX3_placesAheadOf 25 = .ok (.iaload, 1) := by decide +kernel
theorem dX3_placesAheadOf_26 : decode cX3_placesAheadOf 26 = .ok (.goto 4, 3) := by decide +kernel
theorem dX3_placesAheadOf_29 : decode cX3_placesAheadOf 29 = .ok (.iconst 0, 1) := by decide +kernel
theorem dX3_placesAheadOf_30 : decode cX3_placesAheadOf 30 = .ok (.ireturn, 1) := by decide +kernel
set_option maxRecDepth 20000 in
theorem ggX3_placeOf_X3_placesAheadOf : GoodIn wsX3_placeOf wsX3_placesAheadOf := goodIn_r _ [6, 1, 7, 8, 9, 10, 11, 12, 13, 14, 15, 16, 17, 18, 19, 20, 21] (by decide +kernel) (by decide +kernel)
set_option maxRecDepth 20000 in
theorem gX3_placeOf_X3_placesAheadOf : GoodIn wsX3_placeOf (wsV RX3 62 RX3 yX3_placesAheadOf wsX3_placesAheadOf) := goodIn_app (goodIn_of _ (by decide +kernel)) ggX3_placeOf_X3_placesAheadOf
theorem dX3_placeOf_0 : decode cX3_placeOf 0 = .ok (.iconst 0, 1) := by decide +kernel
theorem dX3_placeOf_1 : decode cX3_placeOf 1 = .ok (.istore_n 2, 1) := by decide +kernel
theorem dX3_placeOf_2 : decode cX3_placeOf 2 = .ok (.iload_n 2, 1) := by decide +kernel
theorem dX3_placeOf_3 : decode cX3_placeOf 3 = .ok (.aload_n 0, 1) := by decide +kernel
theorem dX3_placeOf_4 : decode cX3_placeOf 4 = .ok (.getfield 35, 3) := by decide +kernel
theorem dX3_placeOf_7 : decode cX3_placeOf 7 = .ok (.if_icmp .ge 24, 3) := by decide +kernel
theorem dX3_placeOf_10 : decode cX3_placeOf 10 = .ok (.aload_n 0, 1) := by decide +kernel
theorem dX3_placeOf_11 : decode cX3_placeOf 11 = .ok (.iload_n 2, 1) := by decide +kernel
theorem dX3_placeOf_12 : decode cX3_placeOf 12 = .ok (.iconst 1, 1) := by decide +kernel
theorem dX3_placeOf_13 : decode cX3_placeOf 13 = .ok (.iadd, 1) := by decide +kernel
theorem dX3_placeOf_14 : decode cX3_placeOf 14 = .ok (.invokevirtual 62, 3) := by decide +kernel
theorem dX3_placeOf_17 : decode cX3_placeOf 17 = .ok (.iload_n 1, 1) := by decide +kernel
theorem dX3_placeOf_18 : decode cX3_placeOf 18 = .ok (.iconst 1, 1) := by decide +kernel
theorem dX3_placeOf_19 : decode cX3_placeOf 19 = .ok (.iadd, 1) := by decide +kernel
theorem dX3_placeOf_20 : decode cX3_placeOf 20 = .ok (.if_icmp .ne 5, 3) := by decide +kernel
theorem dX3_placeOf_23 : decode cX3_placeOf 23 = .ok (.iload_n 2, 1) := by decide +kernel
theorem dX3_placeOf_24 : decode cX3_placeOf 24 = .ok (.ireturn, 1) := by decide +kernel
theorem dX3_placeOf_25 : decode cX3_placeOf 25 = .ok (.iinc 2 1, 3) := by decide +kernel
theorem dX3_placeOf_28 : decode cX3_placeOf 28 = .ok (.goto (-26), 3) := by decide +kernel
theorem dX3_placeOf_31 : decode cX3_placeOf 31 = .ok (.bipush (-9), 2) := by decide +kernel
theorem dX3_placeOf_33 : decode cX3_placeOf 33 = .ok (.ireturn, 1) := by decide +kernel
set_option maxRecDepth 20000 in
theorem ggX3_bestToListen_X3_greatestAnswer : GoodIn wsX3_bestToListen wsX3_greatestAnswer := goodIn_r _ [5, 6, 7, 8, 9, 10, 11, 12, 13, 14, 15, 16, 17, 18, 19, 20, 21, 22, 23, 24, 25, 26, 27, 28, 29, 30, 31, 32, 33, 34, 35, 36, 4, 37, 38, 39, 40, 41, 42, 43, 44, 45, 46, 47, 48, 49, 50, 51, 52, 53, 54, 55, 56, 57, 58, 59, 60, 61, 62] (by decide +kernel) (by decide +kernel)
set_option maxRecDepth 20000 in
theorem gX3_bestToListen_X3_greatestAnswer : GoodIn wsX3_bestToListen (wsV RX3 74 RX3 yX3_greatestAnswer wsX3_greatestAnswer) := goodIn_app (goodIn_of _ (by decide +kernel)) ggX3_bestToListen_X3_greatestAnswer
theorem dX3_bestToListen_0 : decode cX3_bestToListen 0 = .ok (.iconst 0, 1) := by decide +kernel
theorem dX3_bestToListen_1 : decode cX3_bestToListen 1 = .ok (.istore_n 3, 1) := by decide +kernel
theorem dX3_bestToListen_2 : decode cX3_bestToListen 2 = .ok (.aload_n 0, 1) := by decide +kernel
theorem dX3_bestToListen_3 : decode cX3_bestToListen 3 = .ok (.iconst 0, 1) := by decide +kernel
theorem dX3_bestToListen_4 : decode cX3_bestToListen 4 = .ok (.aload_n 1, 1) := by decide +kernel
theorem dX3_bestToListen_5 : decode cX3_bestToListen 5 = .ok (.iload_n 2, 1) := by decide +kernel
theorem dX3_bestToListen_6 : decode cX3_bestToListen 6 = .ok (.invokevirtual 74, 3) := by decide +kernel
theorem dX3_bestToListen_9 : decode cX3_bestToListen 9 = .ok (.istore 4, 2) := by decide +kernel
theorem dX3_bestToListen_11 : decode cX3_bestToListen 11 = .ok (.iconst 1, 1) := by decide +kernel
theorem dX3_bestToListen_12 : decode cX3_bestToListen 12 = .ok (.istore 5, 2) := by decide +kernel
theorem dX3_bestToListen_14 : decode cX3_bestToListen 14 = .ok (.iload 5, 2) := by decide +kernel
theorem dX3_bestToListen_16 : decode cX3_bestToListen 16 = .ok (.bipush 60, 2) := by decide +kernel
theorem dX3_bestToListen_18 : decode cX3_bestToListen 18 = .ok (.if_icmp .gt 33, 3) := by decide +kernel
theorem dX3_bestToListen_21 : decode cX3_bestToListen 21 = .ok (.aload_n 0, 1) := by decide +kernel
theorem dX3_bestToListen_22 : decode cX3_bestToListen 22 = .ok (.iload 5, 2) := by decide +kernel
theorem dX3_bestToListen_24 : decode cX3_bestToListen 24 = .ok (.aload_n 1, 1) := by decide +kernel
theorem dX3_bestToListen_25 : decode cX3_bestToListen 25 = .ok (.iload_n 2, 1) := by decide +kernel
theorem dX3_bestToListen_26 : decode cX3_bestToListen 26 = .ok (.invokevirtual 74, 3) := by decide +kernel
theorem dX3_bestToListen_29 : decode cX3_bestToListen 29 = .ok (.istore 6, 2) := by decide +kernel
theorem dX3_bestToListen_31 : decode cX3_bestToListen 31 = .ok (.iload 6, 2) := by decide +kernel
theorem dX3_bestToListen_33 : decode cX3_bestToListen 33 = .ok (.iload 4, 2) := by decide +kernel
theorem dX3_bestToListen_35 : decode cX3_bestToListen 35 = .ok (.if_icmp .ge 10, 3) := by decide +kernel
theorem dX3_bestToListen_38 : decode cX3_bestToListen 38 = .ok (.iload 6, 2) := by decide +kernel
theorem dX3_bestToListen_40 : decode cX3_bestToListen 40 = .ok (.istore 4, 2) := by decide +kernel
theorem dX3_bestToListen_42 : decode cX3_bestToListen 42 = .ok (.iload 5, 2) := by decide +kernel
theorem dX3_bestToListen_44 : decode cX3_bestToListen 44 = .ok (.istore_n 3, 1) := by decide +kernel
theorem dX3_bestToListen_45 : decode cX3_bestToListen 45 = .ok (.iinc 5 1, 3) := by decide +kernel
theorem dX3_bestToListen_48 : decode cX3_bestToListen 48 = .ok (.goto (-34), 3) := by decide +kernel
theorem dX3_bestToListen_51 : decode cX3_bestToListen 51 = .ok (.iload_n 3, 1) := by decide +kernel
theorem dX3_bestToListen_52 : decode cX3_bestToListen 52 = .ok (.ireturn, 1) := by decide +kernel
set_option maxRecDepth 20000 in
theorem ggX3_greatestAnswer_X11_isIn : GoodIn wsX3_greatestAnswer wsX11_isIn := goodIn_r _ [9] (by decide +kernel) (by decide +kernel)
set_option maxRecDepth 20000 in
theorem gX3_greatestAnswer_X11_isIn_n51 : GoodIn wsX3_greatestAnswer (wsX11_isIn) := ggX3_greatestAnswer_X11_isIn
set_option maxRecDepth 20000 in
theorem ggX3_greatestAnswer_X6_barsOf : GoodIn wsX3_greatestAnswer wsX6_barsOf := goodIn_r _ [14, 15, 16, 17, 18, 19, 13, 20, 21, 50, 51, 52, 53, 54, 55, 56, 57, 58] (by decide +kernel) (by decide +kernel)
set_option maxRecDepth 20000 in
theorem gX3_greatestAnswer_X6_barsOf : GoodIn wsX3_greatestAnswer (wsV RX3 55 RX6 yX6_barsOf wsX6_barsOf) := goodIn_app (goodIn_of _ (by decide +kernel)) ggX3_greatestAnswer_X6_barsOf
set_option maxRecDepth 20000 in
theorem ggX3_greatestAnswer_X6_whoOf : GoodIn wsX3_greatestAnswer wsX6_whoOf := goodIn_r _ [25, 26, 17, 18, 19, 13, 20, 21, 50, 51, 52, 53, 54, 55, 56, 57, 58] (by decide +kernel) (by decide +kernel)
set_option maxRecDepth 20000 in
theorem gX3_greatestAnswer_X6_whoOf : GoodIn wsX3_greatestAnswer (wsV RX3 59 RX6 yX6_whoOf wsX6_whoOf) := goodIn_app (goodIn_of _ (by decide +kernel)) ggX3_greatestAnswer_X6_whoOf
set_option maxRecDepth 20000 in
theorem ggX3_greatestAnswer_X11_isWithin : GoodIn wsX3_greatestAnswer wsX11_isWithin := goodIn_r _ [28] (by decide +kernel) (by decide +kernel)
set_option maxRecDepth 20000 in
theorem gX3_greatestAnswer_X11_isWithin_n78 : GoodIn wsX3_greatestAnswer (wsX11_isWithin) := ggX3_greatestAnswer_X11_isWithin
set_option maxRecDepth 20000 in
theorem ggX3_greatestAnswer_X3_placesAheadOf : GoodIn wsX3_greatestAnswer wsX3_placesAheadOf := goodIn_r _ [33, 34, 35, 36, 5, 37, 3, 4, 6, 38, 43, 44, 45, 46, 47, 48, 49] (by decide +kernel) (by decide +kernel)
set_option maxRecDepth 20000 in
theorem gX3_greatestAnswer_X3_placesAheadOf : GoodIn wsX3_greatestAnswer (wsV RX3 62 RX3 yX3_placesAheadOf wsX3_placesAheadOf) := goodIn_app (goodIn_of _ (by decide +kernel)) ggX3_greatestAnswer_X3_placesAheadOf
set_option maxRecDepth 20000 in
theorem ggX3_greatestAnswer_X3_placesInAll : GoodIn wsX3_greatestAnswer wsX3_placesInAll := goodIn_r _ [42, 34, 29, 30, 31, 32, 33, 35, 36, 5, 37, 3, 4, 6, 38, 43, 44, 45, 46, 47, 48, 49] (by decide +kernel) (by decide +kernel)
set_option maxRecDepth 20000 in
theorem gX3_greatestAnswer_X3_placesInAll : GoodIn wsX3_greatestAnswer (wsV RX3 82 RX3 yX3_placesInAll wsX3_placesInAll) := goodIn_app (goodIn_of _ (by decide +kernel)) ggX3_greatestAnswer_X3_placesInAll
theorem dX3_greatestAnswer_0 : decode cX3_greatestAnswer 0 = .ok (.iconst 0, 1) := by decide +kernel
theorem dX3_greatestAnswer_1 : decode cX3_greatestAnswer 1 = .ok (.istore 4, 2) := by decide +kernel
theorem dX3_greatestAnswer_3 : decode cX3_greatestAnswer 3 = .ok (.iload 4, 2) := by decide +kernel
theorem dX3_greatestAnswer_5 : decode cX3_greatestAnswer 5 = .ok (.aload_n 0, 1) := by decide +kernel
theorem dX3_greatestAnswer_6 : decode cX3_greatestAnswer 6 = .ok (.getfield 24, 3) := by decide +kernel
theorem dX3_greatestAnswer_9 : decode cX3_greatestAnswer 9 = .ok (.arraylength, 1) := by decide +kernel
theorem dX3_greatestAnswer_10 : decode cX3_greatestAnswer 10 = .ok (.if_icmp .ge 17, 3) := by decide +kernel
theorem dX3_greatestAnswer_13 : decode cX3_greatestAnswer 13 = .ok (.aload_n 0, 1) := by decide +kernel
theorem dX3_greatestAnswer_14 : decode cX3_greatestAnswer 14 = .ok (.getfield 24, 3) := by decide +kernel
theorem dX3_greatestAnswer_17 : decode cX3_greatestAnswer 17 = .ok (.iload 4, 2) := by decide +kernel
theorem dX3_greatestAnswer_19 : decode cX3_greatestAnswer 19 = .ok (.iconst 0, 1) := by decide +kernel
theorem dX3_greatestAnswer_20 : decode cX3_greatestAnswer 20 = .ok (.iastore, 1) := by decide +kernel
theorem dX3_greatestAnswer_21 : decode cX3_greatestAnswer 21 = .ok (.iinc 4 1, 3) := by decide +kernel
theorem dX3_greatestAnswer_24 : decode cX3_greatestAnswer 24 = .ok (.goto (-21), 3) := by decide +kernel
theorem dX3_greatestAnswer_27 : decode cX3_greatestAnswer 27 = .ok (.iconst 0, 1) := by decide +kernel
theorem dX3_greatestAnswer_28 : decode cX3_greatestAnswer 28 = .ok (.istore 4, 2) := by decide +kernel
theorem dX3_greatestAnswer_30 : decode cX3_greatestAnswer 30 = .ok (.iconst 0, 1) := by decide +kernel
theorem dX3_greatestAnswer_31 : decode cX3_greatestAnswer 31 = .ok (.istore 5, 2) := by decide +kernel
theorem dX3_greatestAnswer_33 : decode cX3_greatestAnswer 33 = .ok (.iload 5, 2) := by decide +kernel
theorem dX3_greatestAnswer_35 : decode cX3_greatestAnswer 35 = .ok (.aload_n 2, 1) := by decide +kernel
theorem dX3_greatestAnswer_36 : decode cX3_greatestAnswer 36 = .ok (.getfield 46, 3) := by decide +kernel
theorem dX3_greatestAnswer_39 : decode cX3_greatestAnswer 39 = .ok (.if_icmp .ge 82, 3) := by decide +kernel
theorem dX3_greatestAnswer_42 : decode cX3_greatestAnswer 42 = .ok (.iload 4, 2) := by decide +kernel
theorem dX3_greatestAnswer_44 : decode cX3_greatestAnswer 44 = .ok (.istore 6, 2) := by decide +kernel
theorem dX3_greatestAnswer_46 : decode cX3_greatestAnswer 46 = .ok (.iload 4, 2) := by decide +kernel
theorem dX3_greatestAnswer_48 : decode cX3_greatestAnswer 48 = .ok (.iload_n 3, 1) := by decide +kernel
theorem dX3_greatestAnswer_49 : decode cX3_greatestAnswer 49 = .ok (.iload 5, 2) := by decide +kernel
theorem dX3_greatestAnswer_51 : decode cX3_greatestAnswer 51 = .ok (.invokestatic 51, 3) := by decide +kernel
theorem dX3_greatestAnswer_54 : decode cX3_greatestAnswer 54 = .ok (.ifCond .eq 7, 3) := by decide +kernel
theorem dX3_greatestAnswer_57 : decode cX3_greatestAnswer 57 = .ok (.iconst 0, 1) := by decide +kernel
theorem dX3_greatestAnswer_58 : decode cX3_greatestAnswer 58 = .ok (.goto 9, 3) := by decide +kernel
theorem dX3_greatestAnswer_61 : decode cX3_greatestAnswer 61 = .ok (.aload_n 2, 1) := by decide +kernel
theorem dX3_greatestAnswer_62 : decode cX3_greatestAnswer 62 = .ok (.iload 5, 2) := by decide +kernel
theorem dX3_greatestAnswer_64 : decode cX3_greatestAnswer 64 = .ok (.invokevirtual 55, 3) := by decide +kernel
theorem dX3_greatestAnswer_67 : decode cX3_greatestAnswer 67 = .ok (.iadd, 1) := by decide +kernel
theorem dX3_greatestAnswer_68 : decode cX3_greatestAnswer 68 = .ok (.istore 4, 2) := by decide +kernel
theorem dX3_greatestAnswer_70 : decode cX3_greatestAnswer 70 = .ok (.aload_n 2, 1) := by decide +kernel
theorem dX3_greatestAnswer_71 : decode cX3_greatestAnswer 71 = .ok (.iload 5, 2) := by decide +kernel
theorem dX3_greatestAnswer_73 : decode cX3_greatestAnswer 73 = .ok (.invokevirtual 59, 3) := by decide +kernel
theorem dX3_greatestAnswer_76 : decode cX3_greatestAnswer 76 = .ok (.istore 7, 2) := by decide +kernel
theorem dX3_greatestAnswer_78 : decode cX3_greatestAnswer 78 = .ok (.iload 7, 2) := by decide +kernel
theorem dX3_greatestAnswer_80 : decode cX3_greatestAnswer 80 = .ok (.iconst 0, 1) := by decide +kernel
theorem dX3_greatestAnswer_81 : decode cX3_greatestAnswer 81 = .ok (.iconst 3, 1) := by decide +kernel
theorem dX3_greatestAnswer_82 : decode cX3_greatestAnswer 82 = .ok (.invokestatic 78, 3) := by decide +kernel
theorem dX3_greatestAnswer_85 : decode cX3_greatestAnswer 85 = .ok (.ifCond .eq 30, 3) := by decide +kernel
theorem dX3_greatestAnswer_88 : decode cX3_greatestAnswer 88 = .ok (.aload_n 0, 1) := by decide +kernel
theorem dX3_greatestAnswer_89 : decode cX3_greatestAnswer 89 = .ok (.getfield 24, 3) := by decide +kernel
theorem dX3_greatestAnswer_92 : decode cX3_greatestAnswer 92 = .ok (.iload 7, 2) := by decide +kernel
theorem dX3_greatestAnswer_94 : decode cX3_greatestAnswer 94 = .ok (.dup2, 1) := by decide +kernel
theorem dX3_greatestAnswer_95 : decode cX3_greatestAnswer 95 = .ok (.iaload, 1) := by decide +kernel
theorem dX3_greatestAnswer_96 : decode cX3_greatestAnswer 96 = .ok (.aload_n 0, 1) := by decide +kernel
theorem dX3_greatestAnswer_97 : decode cX3_greatestAnswer 97 = .ok (.iload 4, 2) := by decide +kernel
theorem dX3_greatestAnswer_99 : decode cX3_greatestAnswer 99 = .ok (.iload_n 1, 1) := by decide +kernel
theorem dX3_greatestAnswer_100 : decode cX3_greatestAnswer 100 = .ok (.isub, 1) := by decide +kernel
theorem dX3_greatestAnswer_101 : decode cX3_greatestAnswer 101 = .ok (.invokevirtual 62, 3) := by decide +kernel
theorem dX3_greatestAnswer_104 : decode cX3_greatestAnswer 104 = .ok (.aload_n 0, 1) := by decide +kernel
theorem dX3_greatestAnswer_105 : decode cX3_greatestAnswer 105 = .ok (.iload 6, 2) := by decide +kernel
theorem dX3_greatestAnswer_107 : decode cX3_greatestAnswer 107 = .ok (.iload_n 1, 1) := by decide +kernel
theorem dX3_greatestAnswer_108 : decode cX3_greatestAnswer 108 = .ok (.isub, 1) := by decide +kernel
theorem dX3_greatestAnswer_109 : decode cX3_greatestAnswer 109 = .ok (.invokevirtual 62, 3) := by decide +kernel
theorem dX3_greatestAnswer_112 : decode cX3_greatestAnswer 112 = .ok (.isub, 1) := by decide +kernel
theorem dX3_greatestAnswer_113 : decode cX3_greatestAnswer 113 = .ok (.iadd, 1) := by decide +kernel
theorem dX3_greatestAnswer_114 : decode cX3_greatestAnswer 114 = .ok (.iastore, 1) := by decide +kernel
theorem dX3_greatestAnswer_115 : decode cX3_greatestAnswer 115 = .ok (.iinc 5 1, 3) := by decide +kernel
theorem dX3_greatestAnswer_118 : decode cX3_greatestAnswer 118 = .ok (.goto (-85), 3) := by decide +kernel
theorem dX3_greatestAnswer_121 : decode cX3_greatestAnswer 121 = .ok (.aload_n 0, 1) := by decide +kernel
theorem dX3_greatestAnswer_122 : decode cX3_greatestAnswer 122 = .ok (.getfield 24, 3) := by decide +kernel
theorem dX3_greatestAnswer_125 : decode cX3_greatestAnswer 125 = .ok (.iconst 4, 1) := by decide +kernel
theorem dX3_greatestAnswer_126 : decode cX3_greatestAnswer 126 = .ok (.aload_n 0, 1) := by decide +kernel
theorem dX3_greatestAnswer_127 : decode cX3_greatestAnswer 127 = .ok (.invokevirtual 82, 3) := by decide +kernel
theorem dX3_greatestAnswer_130 : decode cX3_greatestAnswer 130 = .ok (.aload_n 0, 1) := by decide +kernel
theorem dX3_greatestAnswer_131 : decode cX3_greatestAnswer 131 = .ok (.iload 4, 2) := by decide +kernel
theorem dX3_greatestAnswer_133 : decode cX3_greatestAnswer 133 = .ok (.iload_n 1, 1) := by decide +kernel
theorem dX3_greatestAnswer_134 : decode cX3_greatestAnswer 134 = .ok (.isub, 1) := by decide +kernel
theorem dX3_greatestAnswer_135 : decode cX3_greatestAnswer 135 = .ok (.invokevirtual 62, 3) := by decide +kernel
theorem dX3_greatestAnswer_138 : decode cX3_greatestAnswer 138 = .ok (.isub, 1) := by decide +kernel
theorem dX3_greatestAnswer_139 : decode cX3_greatestAnswer 139 = .ok (.iastore, 1) := by decide +kernel
theorem dX3_greatestAnswer_140 : decode cX3_greatestAnswer 140 = .ok (.iconst 0, 1) := by decide +kernel
theorem dX3_greatestAnswer_141 : decode cX3_greatestAnswer 141 = .ok (.istore 5, 2) := by decide +kernel
theorem dX3_greatestAnswer_143 : decode cX3_greatestAnswer 143 = .ok (.iconst 0, 1) := by decide +kernel
theorem dX3_greatestAnswer_144 : decode cX3_greatestAnswer 144 = .ok (.istore 6, 2) := by decide +kernel
theorem dX3_greatestAnswer_146 : decode cX3_greatestAnswer 146 = .ok (.iload 6, 2) := by decide +kernel
theorem dX3_greatestAnswer_148 : decode cX3_greatestAnswer 148 = .ok (.aload_n 0, 1) := by decide +kernel
theorem dX3_greatestAnswer_149 : decode cX3_greatestAnswer 149 = .ok (.getfield 24, 3) := by decide +kernel
theorem dX3_greatestAnswer_152 : decode cX3_greatestAnswer 152 = .ok (.arraylength, 1) := by decide +kernel
theorem dX3_greatestAnswer_153 : decode cX3_greatestAnswer 153 = .ok (.if_icmp .ge 23, 3) := by decide +kernel
theorem dX3_greatestAnswer_156 : decode cX3_greatestAnswer 156 = .ok (.iload 5, 2) := by decide +kernel
theorem dX3_greatestAnswer_158 : decode cX3_greatestAnswer 158 = .ok (.aload_n 0, 1) := by decide +kernel
theorem dX3_greatestAnswer_159 : decode cX3_greatestAnswer 159 = .ok (.getfield 24, 3) := by decide +kernel
theorem dX3_greatestAnswer_162 : decode cX3_greatestAnswer 162 = .ok (.iload 6, 2) := by decide +kernel
theorem dX3_greatestAnswer_164 : decode cX3_greatestAnswer 164 = .ok (.iaload, 1) := by decide +kernel
theorem dX3_greatestAnswer_165 : decode cX3_greatestAnswer 165 = .ok (.invokestatic 71, 3) := by decide +kernel
theorem dX3_greatestAnswer_168 : decode cX3_greatestAnswer 168 = .ok (.istore 5, 2) := by decide +kernel
theorem dX3_greatestAnswer_170 : decode cX3_greatestAnswer 170 = .ok (.iinc 6 1, 3) := by decide +kernel
theorem dX3_greatestAnswer_173 : decode cX3_greatestAnswer 173 = .ok (.goto (-27), 3) := by decide +kernel
theorem dX3_greatestAnswer_176 : decode cX3_greatestAnswer 176 = .ok (.iload 5, 2) := by decide +kernel
theorem dX3_greatestAnswer_178 : decode cX3_greatestAnswer 178 = .ok (.ireturn, 1) := by decide +kernel
theorem dX4_init_0 : decode cX4_init 0 = .ok (.aload_n 0, 1) := by decide +kernel
theorem dX4_init_1 : decode cX4_init 1 = .ok (.invokespecial 3, 3) := by decide +kernel
theorem dX4_init_4 : decode cX4_init 4 = .ok (.aload_n 0, 1) := by decide +kernel
theorem dX4_init_5 : decode cX4_init 5 = .ok (.bipush 8, 2) := by decide +kernel
theorem dX4_init_7 : decode cX4_init 7 = .ok (.newarray .int, 2) := by decide +kernel
theorem dX4_init_9 : decode cX4_init 9 = .ok (.putfield 9, 3) := by decide +kernel
theorem dX4_init_12 : decode cX4_init 12 = .ok (.aload_n 0, 1) := by decide +kernel
theorem dX4_init_13 : decode cX4_init 13 = .ok (.bipush 64, 2) := by decide +kernel
theorem dX4_init_15 : decode cX4_init 15 = .ok (.newarray .int, 2) := by decide +kernel
theorem dX4_init_17 : decode cX4_init 17 = .ok (.putfield 15, 3) := by decide +kernel
theorem dX4_init_20 : decode cX4_init 20 = .ok (.aload_n 0, 1) := by decide +kernel
theorem dX4_init_21 : decode cX4_init 21 = .ok (.sipush 576, 3) := by decide +kernel
theorem dX4_init_24 : decode cX4_init 24 = .ok (.newarray .boolean, 2) := by decide +kernel
theorem dX4_init_26 : decode cX4_init 26 = .ok (.putfield 18, 3) := by decide +kernel
theorem dX4_init_29 : decode cX4_init 29 = .ok (.return_, 1) := by decide +kernel
set_option maxRecDepth 20000 in
theorem ggX4_mostThings_X4_findRooms : GoodIn wsX4_mostThings wsX4_findRooms := goodIn_r _ [6, 7, 8, 9, 10, 11, 12, 13, 14, 15, 16, 17, 18, 19, 20, 21, 22, 23, 24, 25, 26, 27, 76, 77, 78, 67, 68, 69, 70, 71, 72, 73, 74, 75] (by decide +kernel) (by decide +kernel)
set_option maxRecDepth 20000 in
theorem gX4_mostThings_X4_findRooms : GoodIn wsX4_mostThings (wsV RX4 22 RX4 yX4_findRooms wsX4_findRooms) := goodIn_app (goodIn_of _ (by decide +kernel)) ggX4_mostThings_X4_findRooms
set_option maxRecDepth 20000 in
theorem ggX4_mostThings_X4_findSetMinutes : GoodIn wsX4_mostThings wsX4_findSetMinutes := goodIn_r _ [31, 32, 8, 9, 10, 33, 34, 35, 14, 36, 37, 38, 39, 40, 41, 42, 76, 77, 78, 67, 68, 69, 70, 71, 72, 73, 74, 75] (by decide +kernel) (by decide +kernel)
set_option maxRecDepth 20000 in
theorem gX4_mostThings_X4_findSetMinutes : GoodIn wsX4_mostThings (wsV RX4 26 RX4 yX4_findSetMinutes wsX4_findSetMinutes) := goodIn_app (goodIn_of _ (by decide +kernel)) ggX4_mostThings_X4_findSetMinutes
set_option maxRecDepth 20000 in
theorem ggX4_mostThings_X4_findFits : GoodIn wsX4_mostThings wsX4_findFits := goodIn_r _ [46, 47, 7, 48, 49, 50, 5, 51, 52, 53, 54, 55, 56, 57, 58, 59, 32, 76, 77, 78] (by decide +kernel) (by decide +kernel)
set_option maxRecDepth 20000 in
theorem gX4_mostThings_X4_findFits : GoodIn wsX4_mostThings (wsV RX4 36 RX4 yX4_findFits wsX4_findFits) := goodIn_app (goodIn_of _ (by decide +kernel)) ggX4_mostThings_X4_findFits
set_option maxRecDepth 20000 in
theorem ggX4_mostThings_J6_bitCount_0f7a4 : GoodIn wsX4_mostThings wsJ6_bitCount_0f7a4 := goodIn_r _ [63, 64, 65, 66] (by decide +kernel) (by decide +kernel)
set_option maxRecDepth 20000 in
theorem gX4_mostThings_J6_bitCount_0f7a4 : GoodIn wsX4_mostThings (va_wsS RX4 40 yJ6_bitCount_0f7a4 wsJ6_bitCount_0f7a4) := goodIn_app (goodIn_of _ (by decide +kernel)) ggX4_mostThings_J6_bitCount_0f7a4
set_option maxRecDepth 20000 in
theorem ggX4_mostThings_X4_doesFit : GoodIn wsX4_mostThings wsX4_doesFit := goodIn_r _ [55, 47, 76, 77, 78] (by decide +kernel) (by decide +kernel)
set_option maxRecDepth 20000 in
theorem gX4_mostThings_X4_doesFit : GoodIn wsX4_mostThings (wsV RX4 46 RX4 yX4_doesFit wsX4_doesFit) := goodIn_app (goodIn_of _ (by decide +kernel)) ggX4_mostThings_X4_doesFit
theorem dX4_mostThings_0 : decode cX4_mostThings 0 = .ok (.aload_n 0, 1) := by decide +kernel
theorem dX4_mostThings_1 : decode cX4_mostThings 1 = .ok (.aload_n 1, 1) := by decide +kernel
theorem dX4_mostThings_2 : decode cX4_mostThings 2 = .ok (.iload_n 2, 1) := by decide +kernel
theorem dX4_mostThings_3 : decode cX4_mostThings 3 = .ok (.invokevirtual 22, 3) := by decide +kernel
theorem dX4_mostThings_6 : decode cX4_mostThings 6 = .ok (.aload_n 0, 1) := by decide +kernel
theorem dX4_mostThings_7 : decode cX4_mostThings 7 = .ok (.aload_n 1, 1) := by decide +kernel
theorem dX4_mostThings_8 : decode cX4_mostThings 8 = .ok (.invokevirtual 26, 3) := by decide +kernel
theorem dX4_mostThings_11 : decode cX4_mostThings 11 = .ok (.iconst 1, 1) := by decide +kernel
theorem dX4_mostThings_12 : decode cX4_mostThings 12 = .ok (.aload_n 1, 1) := by decide +kernel
theorem dX4_mostThings_13 : decode cX4_mostThings 13 = .ok (.getfield 30, 3) := by decide +kernel
theorem dX4_mostThings_16 : decode cX4_mostThings 16 = .ok (.ishl, 1) := by decide +kernel
theorem dX4_mostThings_17 : decode cX4_mostThings 17 = .ok (.iconst 1, 1) := by decide +kernel
theorem dX4_mostThings_18 : decode cX4_mostThings 18 = .ok (.isub, 1) := by decide +kernel
theorem dX4_mostThings_19 : decode cX4_mostThings 19 = .ok (.istore_n 3, 1) := by decide +kernel
theorem dX4_mostThings_20 : decode cX4_mostThings 20 = .ok (.aload_n 0, 1) := by decide +kernel
theorem dX4_mostThings_21 : decode cX4_mostThings 21 = .ok (.iload_n 3, 1) := by decide +kernel
theorem dX4_mostThings_22 : decode cX4_mostThings 22 = .ok (.invokevirtual 36, 3) := by decide +kernel
theorem dX4_mostThings_25 : decode cX4_mostThings 25 = .ok (.iconst 0, 1) := by decide +kernel
theorem dX4_mostThings_26 : decode cX4_mostThings 26 = .ok (.istore 4, 2) := by decide +kernel
theorem dX4_mostThings_28 : decode cX4_mostThings 28 = .ok (.iconst 1, 1) := by decide +kernel
theorem dX4_mostThings_29 : decode cX4_mostThings 29 = .ok (.istore 5, 2) := by decide +kernel
theorem dX4_mostThings_31 : decode cX4_mostThings 31 = .ok (.iload 5, 2) := by decide +kernel
theorem dX4_mostThings_33 : decode cX4_mostThings 33 = .ok (.iload_n 3, 1) := by decide +kernel
theorem dX4_mostThings_34 : decode cX4_mostThings 34 = .ok (.if_icmp .gt 36, 3) := by decide +kernel
theorem dX4_mostThings_37 : decode cX4_mostThings 37 = .ok (.iload 5, 2) := by decide +kernel
theorem dX4_mostThings_39 : decode cX4_mostThings 39 = .ok (.invokestatic 40, 3) := by decide +kernel
theorem dX4_mostThings_42 : decode cX4_mostThings 42 = .ok (.iload 4, 2) := by decide +kernel
theorem dX4_mostThings_44 : decode cX4_mostThings 44 = .ok (.invokestatic 40, 3) := by decide +kernel
theorem dX4_mostThings_47 : decode cX4_mostThings 47 = .ok (.if_icmp .le 17, 3) := by decide +kernel
theorem dX4_mostThings_50 : decode cX4_mostThings 50 = .ok (.aload_n 0, 1) := by decide +kernel
theorem dX4_mostThings_51 : decode cX4_mostThings 51 = .ok (.iconst 0, 1) := by decide +kernel
theorem dX4_mostThings_52 : decode cX4_mostThings 52 = .ok (.iload 5, 2) := by decide +kernel
theorem dX4_mostThings_54 : decode cX4_mostThings 54 = .ok (.invokevirtual 46, 3) := by decide +kernel
theorem dX4_mostThings_57 : decode cX4_mostThings 57 = .ok (.ifCond .eq 7, 3) := by decide +kernel
theorem dX4_mostThings_60 : decode cX4_mostThings 60 = .ok (.iload 5, 2) := by decide +kernel
theorem dX4_mostThings_62 : decode cX4_mostThings 62 = .ok (.istore 4, 2) := by decide +kernel
theorem dX4_mostThings_64 : decode cX4_mostThings 64 = .ok (.iinc 5 1, 3) := by decide +kernel
theorem dX4_mostThings_67 : decode cX4_mostThings 67 = .ok (.goto (-36), 3) := by decide +kernel
theorem dX4_mostThings_70 : decode cX4_mostThings 70 = .ok (.iload 4, 2) := by decide +kernel
theorem dX4_mostThings_72 : decode cX4_mostThings 72 = .ok (.ireturn, 1) := by decide +kernel
set_option maxRecDepth 20000 in
theorem ggX4_restOf_X11_isIn : GoodIn wsX4_restOf wsX11_isIn := goodIn_r _ [3] (by decide +kernel) (by decide +kernel)
set_option maxRecDepth 20000 in
theorem gX4_restOf_X11_isIn_n50 : GoodIn wsX4_restOf (wsX11_isIn) := ggX4_restOf_X11_isIn
set_option maxRecDepth 20000 in
theorem ggX4_restOf_X6_minutesOf : GoodIn wsX4_restOf wsX6_minutesOf := goodIn_r _ [8, 9, 10, 11, 12, 7, 13, 14, 39, 40, 41, 42, 43, 44, 45, 46, 47] (by decide +kernel) (by decide +kernel)
set_option maxRecDepth 20000 in
theorem gX4_restOf_X6_minutesOf : GoodIn wsX4_restOf (wsV RX4 53 RX6 yX6_minutesOf wsX6_minutesOf) := goodIn_app (goodIn_of _ (by decide +kernel)) ggX4_restOf_X6_minutesOf
set_option maxRecDepth 20000 in
theorem ggX4_restOf_X4_takeLowestRoom : GoodIn wsX4_restOf wsX4_takeLowestRoom := goodIn_r _ [19, 20, 21, 22, 23, 18, 24, 25, 26, 27, 28, 29, 30, 31, 32, 33, 34, 35, 36, 37, 38, 48, 49, 50] (by decide +kernel) (by decide +kernel)
set_option maxRecDepth 20000 in
theorem gX4_restOf_X4_takeLowestRoom : GoodIn wsX4_restOf (wsV RX4 56 RX4 yX4_takeLowestRoom wsX4_takeLowestRoom) := goodIn_app (goodIn_of _ (by decide +kernel)) ggX4_restOf_X4_takeLowestRoom
theorem dX4_restOf_0 : decode cX4_restOf 0 = .ok (.iload_n 2, 1) := by decide +kernel
theorem dX4_restOf_1 : decode cX4_restOf 1 = .ok (.istore 4, 2) := by decide +kernel
theorem dX4_restOf_3 : decode cX4_restOf 3 = .ok (.bipush (-9), 2) := by decide +kernel
theorem dX4_restOf_5 : decode cX4_restOf 5 = .ok (.istore 5, 2) := by decide +kernel
theorem dX4_restOf_7 : decode cX4_restOf 7 = .ok (.iconst 0, 1) := by decide +kernel
theorem dX4_restOf_8 : decode cX4_restOf 8 = .ok (.istore 6, 2) := by decide +kernel
theorem dX4_restOf_10 : decode cX4_restOf 10 = .ok (.iload 6, 2) := by decide +kernel
theorem dX4_restOf_12 : decode cX4_restOf 12 = .ok (.iload_n 1, 1) := by decide +kernel
theorem dX4_restOf_13 : decode cX4_restOf 13 = .ok (.if_icmp .gt 47, 3) := by decide +kernel
theorem dX4_restOf_16 : decode cX4_restOf 16 = .ok (.bipush (-9), 2) := by decide +kernel
theorem dX4_restOf_18 : decode cX4_restOf 18 = .ok (.istore 5, 2) := by decide +kernel
theorem dX4_restOf_20 : decode cX4_restOf 20 = .ok (.iload_n 2, 1) := by decide +kernel
theorem dX4_restOf_21 : decode cX4_restOf 21 = .ok (.iload 6, 2) := by decide +kernel
theorem dX4_restOf_23 : decode cX4_restOf 23 = .ok (.invokestatic 50, 3) := by decide +kernel
theorem dX4_restOf_26 : decode cX4_restOf 26 = .ok (.ifCond .eq 28, 3) := by decide +kernel
theorem dX4_restOf_29 : decode cX4_restOf 29 = .ok (.iload 4, 2) := by decide +kernel
theorem dX4_restOf_31 : decode cX4_restOf 31 = .ok (.iconst 1, 1) := by decide +kernel
theorem dX4_restOf_32 : decode cX4_restOf 32 = .ok (.iload 6, 2) := by decide +kernel
theorem dX4_restOf_34 : decode cX4_restOf 34 = .ok (.ishl, 1) := by decide +kernel
theorem dX4_restOf_35 : decode cX4_restOf 35 = .ok (.iconst (-1), 1) := by decide +kernel
theorem dX4_restOf_36 : decode cX4_restOf 36 = .ok (.ixor, 1) := by decide +kernel
theorem dX4_restOf_37 : decode cX4_restOf 37 = .ok (.iand, 1) := by decide +kernel
theorem dX4_restOf_38 : decode cX4_restOf 38 = .ok (.istore 4, 2) := by decide +kernel
theorem dX4_restOf_40 : decode cX4_restOf 40 = .ok (.aload_n 0, 1) := by decide +kernel
theorem dX4_restOf_41 : decode cX4_restOf 41 = .ok (.aload_n 3, 1) := by decide +kernel
theorem dX4_restOf_42 : decode cX4_restOf 42 = .ok (.iload 6, 2) := by decide +kernel
theorem dX4_restOf_44 : decode cX4_restOf 44 = .ok (.invokevirtual 53, 3) := by decide +kernel
theorem dX4_restOf_47 : decode cX4_restOf 47 = .ok (.iload 4, 2) := by decide +kernel
theorem dX4_restOf_49 : decode cX4_restOf 49 = .ok (.invokevirtual 56, 3) := by decide +kernel
theorem dX4_restOf_52 : decode cX4_restOf 52 = .ok (.istore 5, 2) := by decide +kernel
theorem dX4_restOf_54 : decode cX4_restOf 54 = .ok (.iinc 6 1, 3) := by decide +kernel
theorem dX4_restOf_57 : decode cX4_restOf 57 = .ok (.goto (-47), 3) := by decide +kernel
theorem dX4_restOf_60 : decode cX4_restOf 60 = .ok (.iload 5, 2) := by decide +kernel
theorem dX4_restOf_62 : decode cX4_restOf 62 = .ok (.ireturn, 1) := by decide +kernel
set_option maxRecDepth 20000 in
theorem ggX4_findRooms_X11_isIn : GoodIn wsX4_findRooms wsX11_isIn := goodIn_r _ [4] (by decide +kernel) (by decide +kernel)
set_option maxRecDepth 20000 in
theorem gX4_findRooms_X11_isIn_n50 : GoodIn wsX4_findRooms (wsX11_isIn) := ggX4_findRooms_X11_isIn
set_option maxRecDepth 20000 in
theorem ggX4_findRooms_X6_whoOf : GoodIn wsX4_findRooms wsX6_whoOf := goodIn_r _ [9, 10, 11, 12, 13, 8, 14, 15, 25, 26, 27, 28, 29, 30, 31, 32, 33] (by decide +kernel) (by decide +kernel)
set_option maxRecDepth 20000 in
theorem gX4_findRooms_X6_whoOf : GoodIn wsX4_findRooms (wsV RX4 60 RX6 yX6_whoOf wsX6_whoOf) := goodIn_app (goodIn_of _ (by decide +kernel)) ggX4_findRooms_X6_whoOf
set_option maxRecDepth 20000 in
theorem ggX4_findRooms_X6_barsOf : GoodIn wsX4_findRooms wsX6_barsOf := goodIn_r _ [19, 20, 21, 11, 12, 13, 8, 14, 15, 25, 26, 27, 28, 29, 30, 31, 32, 33] (by decide +kernel) (by decide +kernel)
set_option maxRecDepth 20000 in
theorem gX4_findRooms_X6_barsOf : GoodIn wsX4_findRooms (wsV RX4 63 RX6 yX6_barsOf wsX6_barsOf) := goodIn_app (goodIn_of _ (by decide +kernel)) ggX4_findRooms_X6_barsOf
theorem dX4_findRooms_0 : decode cX4_findRooms 0 = .ok (.iconst 0, 1) := by decide +kernel
theorem dX4_findRooms_1 : decode cX4_findRooms 1 = .ok (.istore_n 3, 1) := by decide +kernel
theorem dX4_findRooms_2 : decode cX4_findRooms 2 = .ok (.iload_n 3, 1) := by decide +kernel
theorem dX4_findRooms_3 : decode cX4_findRooms 3 = .ok (.bipush 8, 2) := by decide +kernel
theorem dX4_findRooms_5 : decode cX4_findRooms 5 = .ok (.if_icmp .ge 53, 3) := by decide +kernel
theorem dX4_findRooms_8 : decode cX4_findRooms 8 = .ok (.iload_n 2, 1) := by decide +kernel
theorem dX4_findRooms_9 : decode cX4_findRooms 9 = .ok (.iload_n 3, 1) := by decide +kernel
theorem dX4_findRooms_10 : decode cX4_findRooms 10 = .ok (.invokestatic 50, 3) := by decide +kernel
theorem dX4_findRooms_13 : decode cX4_findRooms 13 = .ok (.ifCond .ne 16, 3) := by decide +kernel
theorem dX4_findRooms_16 : decode cX4_findRooms 16 = .ok (.aload_n 1, 1) := by decide +kernel
theorem dX4_findRooms_17 : decode cX4_findRooms 17 = .ok (.iload_n 3, 1) := by decide +kernel
theorem dX4_findRooms_18 : decode cX4_findRooms 18 = .ok (.invokevirtual 60, 3) := by decide +kernel
theorem dX4_findRooms_21 : decode cX4_findRooms 21 = .ok (.iconst 2, 1) := by decide +kernel
theorem dX4_findRooms_22 : decode cX4_findRooms 22 = .ok (.if_icmp .eq 7, 3) := by decide +kernel
theorem dX4_findRooms_25 : decode cX4_findRooms 25 = .ok (.iconst 1, 1) := by decide +kernel
theorem dX4_findRooms_26 : decode cX4_findRooms 26 = .ok (.goto 4, 3) := by decide +kernel
theorem dX4_findRooms_29 : decode cX4_findRooms 29 = .ok (.iconst 0, 1) := by decide +kernel
theorem dX4_findRooms_30 : decode cX4_findRooms 30 = .ok (.istore 4, 2) := by decide +kernel
theorem dX4_findRooms_32 : decode cX4_findRooms 32 = .ok (.aload_n 0, 1) := by decide +kernel
theorem dX4_findRooms_33 : decode cX4_findRooms 33 = .ok (.getfield 9, 3) := by decide +kernel
theorem dX4_findRooms_36 : decode cX4_findRooms 36 = .ok (.iload_n 3, 1) := by decide +kernel
theorem dX4_findRooms_37 : decode cX4_findRooms 37 = .ok (.iload 4, 2) := by decide +kernel
theorem dX4_findRooms_39 : decode cX4_findRooms 39 = .ok (.ifCond .eq 11, 3) := by decide +kernel
theorem dX4_findRooms_42 : decode cX4_findRooms 42 = .ok (.aload_n 1, 1) := by decide +kernel
theorem dX4_findRooms_43 : decode cX4_findRooms 43 = .ok (.iload_n 3, 1) := by decide +kernel
theorem dX4_findRooms_44 : decode cX4_findRooms 44 = .ok (.invokevirtual 63, 3) := by decide +kernel
theorem dX4_findRooms_47 : decode cX4_findRooms 47 = .ok (.goto 4, 3) := by decide +kernel
theorem dX4_findRooms_50 : decode cX4_findRooms 50 = .ok (.iconst 0, 1) := by decide +kernel
theorem dX4_findRooms_51 : decode cX4_findRooms 51 = .ok (.iastore, 1) := by decide +kernel
theorem dX4_findRooms_52 : decode cX4_findRooms 52 = .ok (.iinc 3 1, 3) := by decide +kernel
theorem dX4_findRooms_55 : decode cX4_findRooms 55 = .ok (.goto (-53), 3) := by decide +kernel
theorem dX4_findRooms_58 : decode cX4_findRooms 58 = .ok (.return_, 1) := by decide +kernel
set_option maxRecDepth 20000 in
theorem ggX4_findSetMinutes_X11_isIn : GoodIn wsX4_findSetMinutes wsX11_isIn := goodIn_r _ [4] (by decide +kernel) (by decide +kernel)
set_option maxRecDepth 20000 in
theorem gX4_findSetMinutes_X11_isIn_n50 : GoodIn wsX4_findSetMinutes (wsX11_isIn) := ggX4_findSetMinutes_X11_isIn
set_option maxRecDepth 20000 in
theorem ggX4_findSetMinutes_X6_minutesOf : GoodIn wsX4_findSetMinutes wsX6_minutesOf := goodIn_r _ [9, 10, 11, 12, 13, 8, 14, 15, 19, 20, 21, 22, 23, 24, 25, 26, 27] (by decide +kernel) (by decide +kernel)
set_option maxRecDepth 20000 in
theorem gX4_findSetMinutes_X6_minutesOf : GoodIn wsX4_findSetMinutes (wsV RX4 53 RX6 yX6_minutesOf wsX6_minutesOf) := goodIn_app (goodIn_of _ (by decide +kernel)) ggX4_findSetMinutes_X6_minutesOf
theorem dX4_findSetMinutes_0 : decode cX4_findSetMinutes 0 = .ok (.iconst 0, 1) := by decide +kernel
theorem dX4_findSetMinutes_1 : decode cX4_findSetMinutes 1 = .ok (.istore_n 2, 1) := by decide +kernel
theorem dX4_findSetMinutes_2 : decode cX4_findSetMinutes 2 = .ok (.iload_n 2, 1) := by decide +kernel
theorem dX4_findSetMinutes_3 : decode cX4_findSetMinutes 3 = .ok (.bipush 64, 2) := by decide +kernel
theorem dX4_findSetMinutes_5 : decode cX4_findSetMinutes 5 = .ok (.if_icmp .ge 56, 3) := by decide +kernel
theorem dX4_findSetMinutes_8 : decode cX4_findSetMinutes 8 = .ok (.iconst 0, 1) := by decide +kernel
theorem dX4_findSetMinutes_9 : decode cX4_findSetMinutes 9 = .ok (.istore_n 3, 1) := by decide +kernel
theorem dX4_findSetMinutes_10 : decode cX4_findSetMinutes 10 = .ok (.iconst 0, 1) := by decide +kernel
theorem dX4_findSetMinutes_11 : decode cX4_findSetMinutes 11 = .ok (.istore 4, 2) := by decide +kernel
theorem dX4_findSetMinutes_13 : decode cX4_findSetMinutes 13 = .ok (.iload 4, 2) := by decide +kernel
theorem dX4_findSetMinutes_15 : decode cX4_findSetMinutes 15 = .ok (.bipush 6, 2) := by decide +kernel
theorem dX4_findSetMinutes_17 : decode cX4_findSetMinutes 17 = .ok (.if_icmp .ge 31, 3) := by decide +kernel
theorem dX4_findSetMinutes_20 : decode cX4_findSetMinutes 20 = .ok (.iload_n 3, 1) := by decide +kernel
theorem dX4_findSetMinutes_21 : decode cX4_findSetMinutes 21 = .ok (.iload_n 2, 1) := by decide +kernel
theorem dX4_findSetMinutes_22 : decode cX4_findSetMinutes 22 = .ok (.iload 4, 2) := by decide +kernel
theorem dX4_findSetMinutes_24 : decode cX4_findSetMinutes 24 = .ok (.invokestatic 50, 3) := by decide +kernel
theorem dX4_findSetMinutes_27 : decode cX4_findSetMinutes 27 = .ok (.ifCond .eq 12, 3) := by decide +kernel
theorem dX4_findSetMinutes_30 : decode cX4_findSetMinutes 30 = .ok (.aload_n 1, 1) := by decide +kernel
theorem dX4_findSetMinutes_31 : decode cX4_findSetMinutes 31 = .ok (.iload 4, 2) := by decide +kernel
theorem dX4_findSetMinutes_33 : decode cX4_findSetMinutes 33 = .ok (.invokevirtual 53, 3) := by decide +kernel
theorem dX4_findSetMinutes_36 : decode cX4_findSetMinutes 36 = .ok (.goto 4, 3) := by decide +kernel
theorem dX4_findSetMinutes_39 : decode cX4_findSetMinutes 39 = .ok (.iconst 0, 1) := by decide +kernel
theorem dX4_findSetMinutes_40 : decode cX4_findSetMinutes 40 = .ok (.iadd, 1) := by decide +kernel
theorem dX4_findSetMinutes_41 : decode cX4_findSetMinutes 41 = .ok (.istore_n 3, 1) := by decide +kernel
theorem dX4_findSetMinutes_42 : decode cX4_findSetMinutes 42 = .ok (.iinc 4 1, 3) := by decide +kernel
theorem dX4_findSetMinutes_45 : decode cX4_findSetMinutes 45 = .ok (.goto (-32), 3) := by decide +kernel
theorem dX4_findSetMinutes_48 : decode cX4_findSetMinutes 48 = .ok (.aload_n 0, 1) := by decide +kernel
theorem dX4_findSetMinutes_49 : decode cX4_findSetMinutes 49 = .ok (.getfield 15, 3) := by decide +kernel
theorem dX4_findSetMinutes_52 : decode cX4_findSetMinutes 52 = .ok (.iload_n 2, 1) := by decide +kernel
theorem dX4_findSetMinutes_53 : decode cX4_findSetMinutes 53 = .ok (.iload_n 3, 1) := by decide +kernel
theorem dX4_findSetMinutes_54 : decode cX4_findSetMinutes 54 = .ok (.iastore, 1) := by decide +kernel
theorem dX4_findSetMinutes_55 : decode cX4_findSetMinutes 55 = .ok (.iinc 2 1, 3) := by decide +kernel
theorem dX4_findSetMinutes_58 : decode cX4_findSetMinutes 58 = .ok (.goto (-56), 3) := by decide +kernel
theorem dX4_findSetMinutes_61 : decode cX4_findSetMinutes 61 = .ok (.return_, 1) := by decide +kernel
set_option maxRecDepth 20000 in
theorem ggX4_findFits_X4_fitsWithShare : GoodIn wsX4_findFits wsX4_fitsWithShare := goodIn_r _ [7, 8, 9, 10, 6, 11, 1, 12, 13, 14, 15, 16, 17, 18, 19] (by decide +kernel) (by decide +kernel)
set_option maxRecDepth 20000 in
theorem gX4_findFits_X4_fitsWithShare : GoodIn wsX4_findFits (wsV RX4 66 RX4 yX4_fitsWithShare wsX4_fitsWithShare) := goodIn_app (goodIn_of _ (by decide +kernel)) ggX4_findFits_X4_fitsWithShare
theorem dX4_findFits_0 : decode cX4_findFits 0 = .ok (.iconst 0, 1) := by decide +kernel
theorem dX4_findFits_1 : decode cX4_findFits 1 = .ok (.istore_n 2, 1) := by decide +kernel
theorem dX4_findFits_2 : decode cX4_findFits 2 = .ok (.iload_n 2, 1) := by decide +kernel
theorem dX4_findFits_3 : decode cX4_findFits 3 = .ok (.bipush 64, 2) := by decide +kernel
theorem dX4_findFits_5 : decode cX4_findFits 5 = .ok (.if_icmp .ge 28, 3) := by decide +kernel
theorem dX4_findFits_8 : decode cX4_findFits 8 = .ok (.aload_n 0, 1) := by decide +kernel
theorem dX4_findFits_9 : decode cX4_findFits 9 = .ok (.getfield 18, 3) := by decide +kernel
theorem dX4_findFits_12 : decode cX4_findFits 12 = .ok (.sipush 512, 3) := by decide +kernel
theorem dX4_findFits_15 : decode cX4_findFits 15 = .ok (.iload_n 2, 1) := by decide +kernel
theorem dX4_findFits_16 : decode cX4_findFits 16 = .ok (.iadd, 1) := by decide +kernel
theorem dX4_findFits_17 : decode cX4_findFits 17 = .ok (.iload_n 2, 1) := by decide +kernel
theorem dX4_findFits_18 : decode cX4_findFits 18 = .ok (.ifCond .ne 7, 3) := by decide +kernel
theorem dX4_findFits_21 : decode cX4_findFits 21 = .ok (.iconst 1, 1) := by decide +kernel
theorem dX4_findFits_22 : decode cX4_findFits 22 = .ok (.goto 4, 3) := by decide +kernel
theorem dX4_findFits_25 : decode cX4_findFits 25 = .ok (.iconst 0, 1) := by decide +kernel
theorem dX4_findFits_26 : decode cX4_findFits 26 = .ok (.bastore, 1) := by decide +kernel
theorem dX4_findFits_27 : decode cX4_findFits 27 = .ok (.iinc 2 1, 3) := by decide +kernel
theorem dX4_findFits_30 : decode cX4_findFits 30 = .ok (.goto (-28), 3) := by decide +kernel
theorem dX4_findFits_33 : decode cX4_findFits 33 = .ok (.bipush 7, 2) := by decide +kernel
theorem dX4_findFits_35 : decode cX4_findFits 35 = .ok (.istore_n 2, 1) := by decide +kernel
theorem dX4_findFits_36 : decode cX4_findFits 36 = .ok (.iload_n 2, 1) := by decide +kernel
theorem dX4_findFits_37 : decode cX4_findFits 37 = .ok (.ifCond .lt 64, 3) := by decide +kernel
theorem dX4_findFits_40 : decode cX4_findFits 40 = .ok (.iconst 0, 1) := by decide +kernel
theorem dX4_findFits_41 : decode cX4_findFits 41 = .ok (.istore_n 3, 1) := by decide +kernel
theorem dX4_findFits_42 : decode cX4_findFits 42 = .ok (.iload_n 3, 1) := by decide +kernel
theorem dX4_findFits_43 : decode cX4_findFits 43 = .ok (.bipush 64, 2) := by decide +kernel
theorem dX4_findFits_45 : decode cX4_findFits 45 = .ok (.if_icmp .ge 50, 3) := by decide +kernel
theorem dX4_findFits_48 : decode cX4_findFits 48 = .ok (.aload_n 0, 1) := by decide +kernel
theorem dX4_findFits_49 : decode cX4_findFits 49 = .ok (.getfield 18, 3) := by decide +kernel
theorem dX4_findFits_52 : decode cX4_findFits 52 = .ok (.iload_n 2, 1) := by decide +kernel
theorem dX4_findFits_53 : decode cX4_findFits 53 = .ok (.bipush 64, 2) := by decide +kernel
theorem dX4_findFits_55 : decode cX4_findFits 55 = .ok (.imul, 1) := by decide +kernel
theorem dX4_findFits_56 : decode cX4_findFits 56 = .ok (.iload_n 3, 1) := by decide +kernel
theorem dX4_findFits_57 : decode cX4_findFits 57 = .ok (.iadd, 1) := by decide +kernel
theorem dX4_findFits_58 : decode cX4_findFits 58 = .ok (.iload_n 3, 1) := by decide +kernel
theorem dX4_findFits_59 : decode cX4_findFits 59 = .ok (.iload_n 1, 1) := by decide +kernel
theorem dX4_findFits_60 : decode cX4_findFits 60 = .ok (.iconst (-1), 1) := by decide +kernel
theorem dX4_findFits_61 : decode cX4_findFits 61 = .ok (.ixor, 1) := by decide +kernel
theorem dX4_findFits_62 : decode cX4_findFits 62 = .ok (.iand, 1) := by decide +kernel
theorem dX4_findFits_63 : decode cX4_findFits 63 = .ok (.ifCond .ne 24, 3) := by decide +kernel
theorem dX4_findFits_66 : decode cX4_findFits 66 = .ok (.aload_n 0, 1) := by decide +kernel
theorem dX4_findFits_67 : decode cX4_findFits 67 = .ok (.aload_n 0, 1) := by decide +kernel
theorem dX4_findFits_68 : decode cX4_findFits 68 = .ok (.getfield 9, 3) := by decide +kernel
theorem dX4_findFits_71 : decode cX4_findFits 71 = .ok (.iload_n 2, 1) := by decide +kernel
theorem dX4_findFits_72 : decode cX4_findFits 72 = .ok (.iaload, 1) := by decide +kernel
theorem dX4_findFits_73 : decode cX4_findFits 73 = .ok (.iload_n 2, 1) := by decide +kernel
theorem dX4_findFits_74 : decode cX4_findFits 74 = .ok (.iconst 1, 1) := by decide +kernel
theorem dX4_findFits_75 : decode cX4_findFits 75 = .ok (.iadd, 1) := by decide +kernel
theorem dX4_findFits_76 : decode cX4_findFits 76 = .ok (.iload_n 3, 1) := by decide +kernel
theorem dX4_findFits_77 : decode cX4_findFits 77 = .ok (.invokevirtual 66, 3) := by decide +kernel
theorem dX4_findFits_80 : decode cX4_findFits 80 = .ok (.ifCond .eq 7, 3) := by decide +kernel
theorem dX4_findFits_83 : decode cX4_findFits 83 = .ok (.iconst 1, 1) := by decide +kernel
theorem dX4_findFits_84 : decode cX4_findFits 84 = .ok (.goto 4, 3) := by decide +kernel
theorem dX4_findFits_87 : decode cX4_findFits 87 = .ok (.iconst 0, 1) := by decide +kernel
theorem dX4_findFits_88 : decode cX4_findFits 88 = .ok (.bastore, 1) := by decide +kernel
theorem dX4_findFits_89 : decode cX4_findFits 89 = .ok (.iinc 3 1, 3) := by decide +kernel
theorem dX4_findFits_92 : decode cX4_findFits 92 = .ok (.goto (-50), 3) := by decide +kernel
theorem dX4_findFits_95 : decode cX4_findFits 95 = .ok (.iinc 2 (-1), 3) := by decide +kernel
theorem dX4_findFits_98 : decode cX4_findFits 98 = .ok (.goto (-62), 3) := by decide +kernel
theorem dX4_findFits_101 : decode cX4_findFits 101 = .ok (.return_, 1) := by decide +kernel
set_option maxRecDepth 20000 in
theorem ggX4_fitsWithShare_X4_doesFit : GoodIn wsX4_fitsWithShare wsX4_doesFit := goodIn_r _ [5, 6, 12, 13, 14] (by decide +kernel) (by decide +kernel)
set_option maxRecDepth 20000 in
theorem gX4_fitsWithShare_X4_doesFit : GoodIn wsX4_fitsWithShare (wsV RX4 46 RX4 yX4_doesFit wsX4_doesFit) := goodIn_app (goodIn_of _ (by decide +kernel)) ggX4_fitsWithShare_X4_doesFit
set_option maxRecDepth 20000 in
theorem ggX4_fitsWithShare_X4_minutesOfSet : GoodIn wsX4_fitsWithShare wsX4_minutesOfSet := goodIn_r _ [10, 11, 12, 13, 14] (by decide +kernel) (by decide +kernel)
set_option maxRecDepth 20000 in
theorem gX4_fitsWithShare_X4_minutesOfSet : GoodIn wsX4_fitsWithShare (wsV RX4 70 RX4 yX4_minutesOfSet wsX4_minutesOfSet) := goodIn_app (goodIn_of _ (by decide +kernel)) ggX4_fitsWithShare_X4_minutesOfSet
theorem dX4_fitsWithShare_0 : decode cX4_fitsWithShare 0 = .ok (.aload_n 0, 1) := by decide +kernel
theorem dX4_fitsWithShare_1 : decode cX4_fitsWithShare 1 = .ok (.iload_n 2, 1) := by decide +kernel
theorem dX4_fitsWithShare_2 : decode cX4_fitsWithShare 2 = .ok (.iload_n 3, 1) := by decide +kernel
theorem dX4_fitsWithShare_3 : decode cX4_fitsWithShare 3 = .ok (.invokevirtual 46, 3) := by decide +kernel
theorem dX4_fitsWithShare_6 : decode cX4_fitsWithShare 6 = .ok (.ifCond .eq 5, 3) := by decide +kernel
theorem dX4_fitsWithShare_9 : decode cX4_fitsWithShare 9 = .ok (.iconst 1, 1) := by decide +kernel
theorem dX4_fitsWithShare_10 : decode cX4_fitsWithShare 10 = .ok (.ireturn, 1) := by decide +kernel
theorem dX4_fitsWithShare_11 : decode cX4_fitsWithShare 11 = .ok (.iload_n 3, 1) := by decide +kernel
theorem dX4_fitsWithShare_12 : decode cX4_fitsWithShare 12 = .ok (.istore 4, 2) := by decide +kernel
theorem dX4_fitsWithShare_14 : decode cX4_fitsWithShare 14 = .ok (.iload 4, 2) := by decide +kernel
theorem dX4_fitsWithShare_16 : decode cX4_fitsWithShare 16 = .ok (.ifCond .le 40, 3) := by decide +kernel
theorem dX4_fitsWithShare_19 : decode cX4_fitsWithShare 19 = .ok (.aload_n 0, 1) := by decide +kernel
theorem dX4_fitsWithShare_20 : decode cX4_fitsWithShare 20 = .ok (.iload 4, 2) := by decide +kernel
theorem dX4_fitsWithShare_22 : decode cX4_fitsWithShare 22 = .ok (.invokevirtual 70, 3) := by decide +kernel
theorem dX4_fitsWithShare_25 : decode cX4_fitsWithShare 25 = .ok (.iload_n 1, 1) := by decide +kernel
theorem dX4_fitsWithShare_26 : decode cX4_fitsWithShare 26 = .ok (.if_icmp .gt 19, 3) := by decide +kernel
theorem dX4_fitsWithShare_29 : decode cX4_fitsWithShare 29 = .ok (.aload_n 0, 1) := by decide +kernel
theorem dX4_fitsWithShare_30 : decode cX4_fitsWithShare 30 = .ok (.iload_n 2, 1) := by decide +kernel
theorem dX4_fitsWithShare_31 : decode cX4_fitsWithShare 31 = .ok (.iload_n 3, 1) := by decide +kernel
theorem dX4_fitsWithShare_32 : decode cX4_fitsWithShare 32 = .ok (.iload 4, 2) := by decide +kernel
theorem dX4_fitsWithShare_34 : decode cX4_fitsWithShare 34 = .ok (.iconst (-1), 1) := by decide +kernel
theorem dX4_fitsWithShare_35 : decode cX4_fitsWithShare 35 = .ok (.ixor, 1) := by decide +kernel
theorem dX4_fitsWithShare_36 : decode cX4_fitsWithShare 36 = .ok (.iand, 1) := by decide +kernel
theorem dX4_fitsWithShare_37 : decode cX4_fitsWithShare 37 = .ok (.invokevirtual 46, 3) := by decide +kernel
theorem dX4_fitsWithShare_40 : decode cX4_fitsWithShare 40 = .ok (.ifCond .eq 5, 3) := by decide +kernel
theorem dX4_fitsWithShare_43 : decode cX4_fitsWithShare 43 = .ok (.iconst 1, 1) := by decide +kernel
theorem dX4_fitsWithShare_44 : decode cX4_fitsWithShare 44 = .ok (.ireturn, 1) := by decide +kernel
theorem dX4_fitsWithShare_45 : decode cX4_fitsWithShare 45 = .ok (.iload 4, 2) := by decide +kernel
theorem dX4_fitsWithShare_47 : decode cX4_fitsWithShare 47 = .ok (.iconst 1, 1) := by decide +kernel
theorem dX4_fitsWithShare_48 : decode cX4_fitsWithShare 48 = .ok (.isub, 1) := by decide +kernel
theorem dX4_fitsWithShare_49 : decode cX4_fitsWithShare 49 = .ok (.iload_n 3, 1) := by decide +kernel
theorem dX4_fitsWithShare_50 : decode cX4_fitsWithShare 50 = .ok (.iand, 1) := by decide +kernel
theorem dX4_fitsWithShare_51 : decode cX4_fitsWithShare 51 = .ok (.istore 4, 2) := by decide +kernel
theorem dX4_fitsWithShare_53 : decode cX4_fitsWithShare 53 = .ok (.goto (-39), 3) := by decide +kernel
theorem dX4_fitsWithShare_56 : decode cX4_fitsWithShare 56 = .ok (.iconst 0, 1) := by decide +kernel
theorem dX4_fitsWithShare_57 : decode cX4_fitsWithShare 57 = .ok (.ireturn, 1) := by decide +kernel
theorem dX4_minutesOfSet_0 : decode cX4_minutesOfSet 0 = .ok (.iload_n 1, 1) := by decide +kernel
theorem dX4_minutesOfSet_1 : decode cX4_minutesOfSet 1 = .ok (.ifCond .lt 18, 3) := by decide +kernel
theorem dX4_minutesOfSet_4 : decode cX4_minutesOfSet 4 = .ok (.iload_n 1, 1) := by decide +kernel
theorem dX4_minutesOfSet_5 : decode cX4_minutesOfSet 5 = .ok (.bipush 64, 2) := by decide +kernel
theorem dX4_minutesOfSet_7 : decode cX4_minutesOfSet 7 = .ok (.if_icmp .ge 12, 3) := by decide +kernel
theorem dX4_minutesOfSet_10 : decode cX4_minutesOfSet 10 = .ok (.aload_n 0, 1) := by decide +kernel
theorem dX4_minutesOfSet_11 : decode cX4_minutesOfSet 11 = .ok (.getfield 15, 3) := by decide +kernel
theorem dX4_minutesOfSet_14 : decode cX4_minutesOfSet 14 = .ok (.iload_n 1, 1) := by decide +kernel
theorem dX4_minutesOfSet_15 : decode cX4_minutesOfSet 15 = .ok (.iaload, 1) := by decide +kernel
theorem dX4_minutesOfSet_16 : decode cX4_minutesOfSet 16 = .ok (.goto 4, 3) := by decide +kernel
theorem dX4_minutesOfSet_19 : decode cX4_minutesOfSet 19 = .ok (.iconst 0, 1) := by decide +kernel
theorem dX4_minutesOfSet_20 : decode cX4_minutesOfSet 20 = .ok (.ireturn, 1) := by decide +kernel
theorem dX4_doesFit_0 : decode cX4_doesFit 0 = .ok (.iload_n 1, 1) := by decide +kernel
theorem dX4_doesFit_1 : decode cX4_doesFit 1 = .ok (.bipush 64, 2) := by decide +kernel
theorem dX4_doesFit_3 : decode cX4_doesFit 3 = .ok (.imul, 1) := by decide +kernel
theorem dX4_doesFit_4 : decode cX4_doesFit 4 = .ok (.iload_n 2, 1) := by decide +kernel
theorem dX4_doesFit_5 : decode cX4_doesFit 5 = .ok (.iadd, 1) := by decide +kernel
theorem dX4_doesFit_6 : decode cX4_doesFit 6 = .ok (.istore_n 3, 1) := by decide +kernel
theorem dX4_doesFit_7 : decode cX4_doesFit 7 = .ok (.iload_n 3, 1) := by decide +kernel
theorem dX4_doesFit_8 : decode cX4_doesFit 8 = .ok (.ifCond .lt 25, 3) := by decide +kernel
theorem dX4_doesFit_11 : decode cX4_doesFit 11 = .ok (.iload_n 3, 1) := by decide +kernel
theorem dX4_doesFit_12 : decode cX4_doesFit 12 = .ok (.aload_n 0, 1) := by decide +kernel
theorem dX4_doesFit_13 : decode cX4_doesFit 13 = .ok (.getfield 18, 3) := by decide +kernel
theorem dX4_doesFit_16 : decode cX4_doesFit 16 = .ok (.arraylength, 1) := by decide +kernel
theorem dX4_doesFit_17 : decode cX4_doesFit 17 = .ok (.if_icmp .ge 16, 3) := by decide +kernel
theorem dX4_doesFit_20 : decode cX4_doesFit 20 = .ok (.aload_n 0, 1) := by decide +kernel
theorem dX4_doesFit_21 : decode cX4_doesFit 21 = .ok (.getfield 18, 3) := by decide +kernel
theorem dX4_doesFit_24 : decode cX4_doesFit 24 = .ok (.iload_n 3, 1) := by decide +kernel
theorem dX4_doesFit_25 : decode cX4_doesFit 25 = .ok (.baload, 1) := by decide +kernel
theorem dX4_doesFit_26 : decode cX4_doesFit 26 = .ok (.ifCond .eq 7, 3) := by decide +kernel
theorem dX4_doesFit_29 : decode cX4_doesFit 29 = .ok (.iconst 1, 1) := by decide +kernel
theorem dX4_doesFit_30 : decode cX4_doesFit 30 = .ok (.goto 4, 3) := by decide +kernel
theorem dX4_doesFit_33 : decode cX4_doesFit 33 = .ok (.iconst 0, 1) := by decide +kernel
theorem dX4_doesFit_34 : decode cX4_doesFit 34 = .ok (.ireturn, 1) := by decide +kernel
set_option maxRecDepth 20000 in
theorem ggX4_takeLowestRoom_X4_findFits : GoodIn wsX4_takeLowestRoom wsX4_findFits := goodIn_r _ [6, 7, 1, 8, 9, 10, 5, 11, 12, 13, 14, 15, 16, 17, 18, 19, 20, 21, 22, 23] (by decide +kernel) (by decide +kernel)
set_option maxRecDepth 20000 in
theorem gX4_takeLowestRoom_X4_findFits : GoodIn wsX4_takeLowestRoom (wsV RX4 36 RX4 yX4_findFits wsX4_findFits) := goodIn_app (goodIn_of _ (by decide +kernel)) ggX4_takeLowestRoom_X4_findFits
set_option maxRecDepth 20000 in
theorem ggX4_takeLowestRoom_X4_doesFit : GoodIn wsX4_takeLowestRoom wsX4_doesFit := goodIn_r _ [15, 7, 21, 22, 23] (by decide +kernel) (by decide +kernel)
set_option maxRecDepth 20000 in
theorem gX4_takeLowestRoom_X4_doesFit : GoodIn wsX4_takeLowestRoom (wsV RX4 46 RX4 yX4_doesFit wsX4_doesFit) := goodIn_app (goodIn_of _ (by decide +kernel)) ggX4_takeLowestRoom_X4_doesFit
theorem dX4_takeLowestRoom_0 : decode cX4_takeLowestRoom 0 = .ok (.iconst 0, 1) := by decide +kernel
theorem dX4_takeLowestRoom_1 : decode cX4_takeLowestRoom 1 = .ok (.istore_n 3, 1) := by decide +kernel
theorem dX4_takeLowestRoom_2 : decode cX4_takeLowestRoom 2 = .ok (.iload_n 3, 1) := by decide +kernel
theorem dX4_takeLowestRoom_3 : decode cX4_takeLowestRoom 3 = .ok (.bipush 8, 2) := by decide +kernel
theorem dX4_takeLowestRoom_5 : decode cX4_takeLowestRoom 5 = .ok (.if_icmp .ge 55, 3) := by decide +kernel
theorem dX4_takeLowestRoom_8 : decode cX4_takeLowestRoom 8 = .ok (.aload_n 0, 1) := by decide +kernel
theorem dX4_takeLowestRoom_9 : decode cX4_takeLowestRoom 9 = .ok (.getfield 9, 3) := by decide +kernel
theorem dX4_takeLowestRoom_12 : decode cX4_takeLowestRoom 12 = .ok (.iload_n 3, 1) := by decide +kernel
theorem dX4_takeLowestRoom_13 : decode cX4_takeLowestRoom 13 = .ok (.iaload, 1) := by decide +kernel
theorem dX4_takeLowestRoom_14 : decode cX4_takeLowestRoom 14 = .ok (.iload_n 1, 1) := by decide +kernel
theorem dX4_takeLowestRoom_15 : decode cX4_takeLowestRoom 15 = .ok (.if_icmp .lt 39, 3) := by decide +kernel
theorem dX4_takeLowestRoom_18 : decode cX4_takeLowestRoom 18 = .ok (.aload_n 0, 1) := by decide +kernel
theorem dX4_takeLowestRoom_19 : decode cX4_takeLowestRoom 19 = .ok (.getfield 9, 3) := by decide +kernel
theorem dX4_takeLowestRoom_22 : decode cX4_takeLowestRoom 22 = .ok (.iload_n 3, 1) := by decide +kernel
theorem dX4_takeLowestRoom_23 : decode cX4_takeLowestRoom 23 = .ok (.dup2, 1) := by decide +kernel
theorem dX4_takeLowestRoom_24 : decode cX4_takeLowestRoom 24 = .ok (.iaload, 1) := by decide +kernel
theorem dX4_takeLowestRoom_25 : decode cX4_takeLowestRoom 25 = .ok (.iload_n 1, 1) := by decide +kernel
theorem dX4_takeLowestRoom_26 : decode cX4_takeLowestRoom 26 = .ok (.isub, 1) := by decide +kernel
theorem dX4_takeLowestRoom_27 : decode cX4_takeLowestRoom 27 = .ok (.iastore, 1) := by decide +kernel
theorem dX4_takeLowestRoom_28 : decode cX4_takeLowestRoom 28 = .ok (.aload_n 0, 1) := by decide +kernel
theorem dX4_takeLowestRoom_29 : decode cX4_takeLowestRoom 29 = .ok (.iload_n 2, 1) := by decide +kernel
theorem dX4_takeLowestRoom_30 : decode cX4_takeLowestRoom 30 = .ok (.invokevirtual 36, 3) := by decide +kernel
theorem dX4_takeLowestRoom_33 : decode cX4_takeLowestRoom 33 = .ok (.aload_n 0, 1) := by decide +kernel
theorem dX4_takeLowestRoom_34 : decode cX4_takeLowestRoom 34 = .ok (.iconst 0, 1) := by decide +kernel
theorem dX4_takeLowestRoom_35 : decode cX4_takeLowestRoom 35 = .ok (.iload_n 2, 1) := by decide +kernel
theorem dX4_takeLowestRoom_36 : decode cX4_takeLowestRoom 36 = .ok (.invokevirtual 46, 3) := by decide +kernel
theorem dX4_takeLowestRoom_39 : decode cX4_takeLowestRoom 39 = .ok (.ifCond .eq 5, 3) := by decide +kernel
theorem dX4_takeLowestRoom_42 : decode cX4_takeLowestRoom 42 = .ok (.iload_n 3, 1) := by decide +kernel
theorem dX4_takeLowestRoom_43 : decode cX4_takeLowestRoom 43 = .ok (.ireturn, 1) := by decide +kernel
theorem dX4_takeLowestRoom_44 : decode cX4_takeLowestRoom 44 = .ok (.aload_n 0, 1) := by decide +kernel
theorem dX4_takeLowestRoom_45 : decode cX4_takeLowestRoom 45 = .ok (.getfield 9, 3) := by decide +kernel
theorem dX4_takeLowestRoom_48 : decode cX4_takeLowestRoom 48 = .ok (.iload_n 3, 1) := by decide +kernel
theorem dX4_takeLowestRoom_49 : decode cX4_takeLowestRoom 49 = .ok (.dup2, 1) := by decide +kernel
theorem dX4_takeLowestRoom_50 : decode cX4_takeLowestRoom 50 = .ok (.iaload, 1) := by decide +kernel
theorem dX4_takeLowestRoom_51 : decode cX4_takeLowestRoom 51 = .ok (.iload_n 1, 1) := by decide +kernel
theorem dX4_takeLowestRoom_52 : decode cX4_takeLowestRoom 52 = .ok (.iadd, 1) := by decide +kernel
theorem dX4_takeLowestRoom_53 : decode cX4_takeLowestRoom 53 = .ok (.iastore, 1) := by decide +kernel
theorem dX4_takeLowestRoom_54 : decode cX4_takeLowestRoom 54 = .ok (.iinc 3 1, 3) := by decide +kernel
theorem dX4_takeLowestRoom_57 : decode cX4_takeLowestRoom 57 = .ok (.goto (-55), 3) := by decide +kernel
theorem dX4_takeLowestRoom_60 : decode cX4_takeLowestRoom 60 = .ok (.bipush (-9), 2) := by decide +kernel
theorem dX4_takeLowestRoom_62 : decode cX4_takeLowestRoom 62 = .ok (.ireturn, 1) := by decide +kernel
theorem dX5_init_0 : decode cX5_init 0 = .ok (.aload_n 0, 1) := by decide +kernel
theorem dX5_init_1 : decode cX5_init 1 = .ok (.invokespecial 1, 3) := by decide +kernel
theorem dX5_init_4 : decode cX5_init 4 = .ok (.return_, 1) := by decide +kernel
set_option maxRecDepth 20000 in
theorem ggX5_valueOf_X6_lengthOf : GoodIn wsX5_valueOf wsX6_lengthOf := goodIn_r _ [5, 6, 7, 8, 9, 4, 10, 11, 23, 24, 25, 26, 27, 28, 29, 30, 31] (by decide +kernel) (by decide +kernel)
set_option maxRecDepth 20000 in
theorem gX5_valueOf_X6_lengthOf : GoodIn wsX5_valueOf (wsV RX5 17 RX6 yX6_lengthOf wsX6_lengthOf) := goodIn_app (goodIn_of _ (by decide +kernel)) ggX5_valueOf_X6_lengthOf
theorem dX5_valueOf_0 : decode cX5_valueOf 0 = .ok (.aload_n 1, 1) := by decide +kernel
theorem dX5_valueOf_1 : decode cX5_valueOf 1 = .ok (.dup, 1) := by decide +kernel
theorem dX5_valueOf_2 : decode cX5_valueOf 2 = .ok (.getfield 7, 3) := by decide +kernel
theorem dX5_valueOf_5 : decode cX5_valueOf 5 = .ok (.lconst 1, 1) := by decide +kernel
theorem dX5_valueOf_6 : decode cX5_valueOf 6 = .ok (.ladd, 1) := by decide +kernel
theorem dX5_valueOf_7 : decode cX5_valueOf 7 = .ok (.putfield 7, 3) := by decide +kernel
theorem dX5_valueOf_10 : decode cX5_valueOf 10 = .ok (.aload_n 1, 1) := by decide +kernel
theorem dX5_valueOf_11 : decode cX5_valueOf 11 = .ok (.getfield 13, 3) := by decide +kernel
theorem dX5_valueOf_14 : decode cX5_valueOf 14 = .ok (.iload_n 2, 1) := by decide +kernel
theorem dX5_valueOf_15 : decode cX5_valueOf 15 = .ok (.invokevirtual 17, 3) := by decide +kernel
theorem dX5_valueOf_18 : decode cX5_valueOf 18 = .ok (.ireturn, 1) := by decide +kernel
theorem dX6_init_0 : decode cX6_init 0 = .ok (.aload_n 0, 1) := by decide +kernel
theorem dX6_init_1 : decode cX6_init 1 = .ok (.invokespecial 3, 3) := by decide +kernel
theorem dX6_init_4 : decode cX6_init 4 = .ok (.aload_n 0, 1) := by decide +kernel
theorem dX6_init_5 : decode cX6_init 5 = .ok (.bipush 8, 2) := by decide +kernel
theorem dX6_init_7 : decode cX6_init 7 = .ok (.newarray .int, 2) := by decide +kernel
theorem dX6_init_9 : decode cX6_init 9 = .ok (.putfield 9, 3) := by decide +kernel
theorem dX6_init_12 : decode cX6_init 12 = .ok (.aload_n 0, 1) := by decide +kernel
theorem dX6_init_13 : decode cX6_init 13 = .ok (.bipush 8, 2) := by decide +kernel
theorem dX6_init_15 : decode cX6_init 15 = .ok (.newarray .int, 2) := by decide +kernel
theorem dX6_init_17 : decode cX6_init 17 = .ok (.putfield 15, 3) := by decide +kernel
theorem dX6_init_20 : decode cX6_init 20 = .ok (.aload_n 0, 1) := by decide +kernel
theorem dX6_init_21 : decode cX6_init 21 = .ok (.bipush 8, 2) := by decide +kernel
theorem dX6_init_23 : decode cX6_init 23 = .ok (.newarray .int, 2) := by decide +kernel
theorem dX6_init_25 : decode cX6_init 25 = .ok (.putfield 18, 3) := by decide +kernel
theorem dX6_init_28 : decode cX6_init 28 = .ok (.aload_n 0, 1) := by decide +kernel
theorem dX6_init_29 : decode cX6_init 29 = .ok (.bipush 6, 2) := by decide +kernel
theorem dX6_init_31 : decode cX6_init 31 = .ok (.newarray .int, 2) := by decide +kernel
theorem dX6_init_33 : decode cX6_init 33 = .ok (.putfield 21, 3) := by decide +kernel
theorem dX6_init_36 : decode cX6_init 36 = .ok (.return_, 1) := by decide +kernel
theorem dX6_begin_0 : decode cX6_begin 0 = .ok (.aload_n 0, 1) := by decide +kernel
theorem dX6_begin_1 : decode cX6_begin 1 = .ok (.iconst 0, 1) := by decide +kernel
theorem dX6_begin_2 : decode cX6_begin 2 = .ok (.putfield 24, 3) := by decide +kernel
theorem dX6_begin_5 : decode cX6_begin 5 = .ok (.aload_n 0, 1) := by decide +kernel
theorem dX6_begin_6 : decode cX6_begin 6 = .ok (.iconst 0, 1) := by decide +kernel
theorem dX6_begin_7 : decode cX6_begin 7 = .ok (.putfield 28, 3) := by decide +kernel
theorem dX6_begin_10 : decode cX6_begin 10 = .ok (.aload_n 0, 1) := by decide +kernel
theorem dX6_begin_11 : decode cX6_begin 11 = .ok (.iconst 0, 1) := by decide +kernel
theorem dX6_begin_12 : decode cX6_begin 12 = .ok (.putfield 31, 3) := by decide +kernel
theorem dX6_begin_15 : decode cX6_begin 15 = .ok (.aload_n 0, 1) := by decide +kernel
theorem dX6_begin_16 : decode cX6_begin 16 = .ok (.iconst 0, 1) := by decide +kernel
theorem dX6_begin_17 : decode cX6_begin 17 = .ok (.putfield 35, 3) := by decide +kernel
theorem dX6_begin_20 : decode cX6_begin 20 = .ok (.aload_n 0, 1) := by decide +kernel
theorem dX6_begin_21 : decode cX6_begin 21 = .ok (.iconst 0, 1) := by decide +kernel
theorem dX6_begin_22 : decode cX6_begin 22 = .ok (.putfield 38, 3) := by decide +kernel
theorem dX6_begin_25 : decode cX6_begin 25 = .ok (.return_, 1) := by decide +kernel
theorem dX6_becomeLike_0 : decode cX6_becomeLike 0 = .ok (.aload_n 1, 1) := by decide +kernel
theorem dX6_becomeLike_1 : decode cX6_becomeLike 1 = .ok (.getfield 9, 3) := by decide +kernel
theorem dX6_becomeLike_4 : decode cX6_becomeLike 4 = .ok (.iconst 0, 1) := by decide +kernel
theorem dX6_becomeLike_5 : decode cX6_becomeLike 5 = .ok (.aload_n 0, 1) := by decide +kernel
theorem dX6_becomeLike_6 : decode cX6_becomeLike 6 = .ok (.getfield 9, 3) := by decide +kernel
theorem dX6_becomeLike_9 : decode cX6_becomeLike 9 = .ok (.iconst 0, 1) := by decide +kernel
theorem dX6_becomeLike_10 : decode cX6_becomeLike 10 = .ok (.bipush 8, 2) := by decide +kernel
theorem dX6_becomeLike_12 : decode cX6_becomeLike 12 = .ok (.invokestatic 41, 3) := by decide +kernel
theorem dX6_becomeLike_15 : decode cX6_becomeLike 15 = .ok (.aload_n 1, 1) := by decide +kernel
theorem dX6_becomeLike_16 : decode cX6_becomeLike 16 = .ok (.getfield 15, 3) := by decide +kernel
theorem dX6_becomeLike_19 : decode cX6_becomeLike 19 = .ok (.iconst 0, 1) := by decide +kernel
theorem dX6_becomeLike_20 : decode cX6_becomeLike 20 = .ok (.aload_n 0, 1) := by decide +kernel
theorem dX6_becomeLike_21 : decode cX6_becomeLike 21 = .ok (.getfield 15, 3) := by decide +kernel
theorem dX6_becomeLike_24 : decode cX6_becomeLike 24 = .ok (.iconst 0, 1) := by decide +kernel
theorem dX6_becomeLike_25 : decode cX6_becomeLike 25 = .ok (.bipush 8, 2) := by decide +kernel
theorem dX6_becomeLike_27 : decode cX6_becomeLike 27 = .ok (.invokestatic 41, 3) := by decide +kernel
theorem dX6_becomeLike_30 : decode cX6_becomeLike 30 = .ok (.aload_n 1, 1) := by decide +kernel
theorem dX6_becomeLike_31 : decode cX6_becomeLike 31 = .ok (.getfield 18, 3) := by decide +kernel
theorem dX6_becomeLike_34 : decode cX6_becomeLike 34 = .ok (.iconst 0, 1) := by decide +kernel
theorem dX6_becomeLike_35 : decode cX6_becomeLike 35 = .ok (.aload_n 0, 1) := by decide +kernel
theorem dX6_becomeLike_36 : decode cX6_becomeLike 36 = .ok (.getfield 18, 3) := by decide +kernel
theorem dX6_becomeLike_39 : decode cX6_becomeLike 39 = .ok (.iconst 0, 1) := by decide +kernel
theorem dX6_becomeLike_40 : decode cX6_becomeLike 40 = .ok (.bipush 8, 2) := by decide +kernel
theorem dX6_becomeLike_42 : decode cX6_becomeLike 42 = .ok (.invokestatic 41, 3) := by decide +kernel
theorem dX6_becomeLike_45 : decode cX6_becomeLike 45 = .ok (.aload_n 1, 1) := by decide +kernel
theorem dX6_becomeLike_46 : decode cX6_becomeLike 46 = .ok (.getfield 21, 3) := by decide +kernel
theorem dX6_becomeLike_49 : decode cX6_becomeLike 49 = .ok (.iconst 0, 1) := by decide +kernel
theorem dX6_becomeLike_50 : decode cX6_becomeLike 50 = .ok (.aload_n 0, 1) := by decide +kernel
theorem dX6_becomeLike_51 : decode cX6_becomeLike 51 = .ok (.getfield 21, 3) := by decide +kernel
theorem dX6_becomeLike_54 : decode cX6_becomeLike 54 = .ok (.iconst 0, 1) := by decide +kernel
theorem dX6_becomeLike_55 : decode cX6_becomeLike 55 = .ok (.bipush 6, 2) := by decide +kernel
theorem dX6_becomeLike_57 : decode cX6_becomeLike 57 = .ok (.invokestatic 41, 3) := by decide +kernel
theorem dX6_becomeLike_60 : decode cX6_becomeLike 60 = .ok (.aload_n 0, 1) := by decide +kernel
theorem dX6_becomeLike_61 : decode cX6_becomeLike 61 = .ok (.aload_n 1, 1) := by decide +kernel
theorem dX6_becomeLike_62 : decode cX6_becomeLike 62 = .ok (.getfield 24, 3) := by decide +kernel
theorem dX6_becomeLike_65 : decode cX6_becomeLike 65 = .ok (.putfield 24, 3) := by decide +kernel
theorem dX6_becomeLike_68 : decode cX6_becomeLike 68 = .ok (.aload_n 0, 1) := by decide +kernel
theorem dX6_becomeLike_69 : decode cX6_becomeLike 69 = .ok (.aload_n 1, 1) := by decide +kernel
theorem dX6_becomeLike_70 : decode cX6_becomeLike 70 = .ok (.getfield 28, 3) := by decide +kernel
theorem dX6_becomeLike_73 : decode cX6_becomeLike 73 = .ok (.putfield 28, 3) := by decide +kernel
theorem dX6_becomeLike_76 : decode cX6_becomeLike 76 = .ok (.aload_n 0, 1) := by decide +kernel
theorem dX6_becomeLike_77 : decode cX6_becomeLike 77 = .ok (.aload_n 1, 1) := by decide +kernel
theorem dX6_becomeLike_78 : decode cX6_becomeLike 78 = .ok (.getfield 31, 3) := by decide +kernel
theorem dX6_becomeLike_81 : decode cX6_becomeLike 81 = .ok (.putfield 31, 3) := by decide +kernel
theorem dX6_becomeLike_84 : decode cX6_becomeLike 84 = .ok (.aload_n 0, 1) := by decide +kernel
theorem dX6_becomeLike_85 : decode cX6_becomeLike 85 = .ok (.aload_n 1, 1) := by decide +kernel
theorem dX6_becomeLike_86 : decode cX6_becomeLike 86 = .ok (.getfield 35, 3) := by decide +kernel
theorem dX6_becomeLike_89 : decode cX6_becomeLike 89 = .ok (.putfield 35, 3) := by decide +kernel
theorem dX6_becomeLike_92 : decode cX6_becomeLike 92 = .ok (.aload_n 0, 1) := by decide +kernel
theorem dX6_becomeLike_93 : decode cX6_becomeLike 93 = .ok (.aload_n 1, 1) := by decide +kernel
theorem dX6_becomeLike_94 : decode cX6_becomeLike 94 = .ok (.getfield 38, 3) := by decide +kernel
theorem dX6_becomeLike_97 : decode cX6_becomeLike 97 = .ok (.putfield 38, 3) := by decide +kernel
theorem dX6_becomeLike_100 : decode cX6_becomeLike 100 = .ok (.return_, 1) := by decide +kernel
theorem dX6_addSection_0 : decode cX6_addSection 0 = .ok (.aload_n 0, 1) := by decide +kernel
theorem dX6_addSection_1 : decode cX6_addSection 1 = .ok (.getfield 24, 3) := by decide +kernel
theorem dX6_addSection_4 : decode cX6_addSection 4 = .ok (.bipush 8, 2) := by decide +kernel
theorem dX6_addSection_6 : decode cX6_addSection 6 = .ok (.if_icmp .ge 43, 3) := by decide +kernel
theorem dX6_addSection_9 : decode cX6_addSection 9 = .ok (.aload_n 0, 1) := by decide +kernel
theorem dX6_addSection_10 : decode cX6_addSection 10 = .ok (.getfield 9, 3) := by decide +kernel
theorem dX6_addSection_13 : decode cX6_addSection 13 = .ok (.aload_n 0, 1) := by decide +kernel
theorem dX6_addSection_14 : decode cX6_addSection 14 = .ok (.getfield 24, 3) := by decide +kernel
theorem dX6_addSection_17 : decode cX6_addSection 17 = .ok (.iload_n 1, 1) := by decide +kernel
theorem dX6_addSection_18 : decode cX6_addSection 18 = .ok (.iastore, 1) := by decide +kernel
theorem dX6_addSection_19 : decode cX6_addSection 19 = .ok (.aload_n 0, 1) := by decide +kernel
theorem dX6_addSection_20 : decode cX6_addSection 20 = .ok (.getfield 15, 3) := by decide +kernel
theorem dX6_addSection_23 : decode cX6_addSection 23 = .ok (.aload_n 0, 1) := by decide +kernel
theorem dX6_addSection_24 : decode cX6_addSection 24 = .ok (.getfield 24, 3) := by decide +kernel
theorem dX6_addSection_27 : decode cX6_addSection 27 = .ok (.iload_n 2, 1) := by decide +kernel
theorem dX6_addSection_28 : decode cX6_addSection 28 = .ok (.iastore, 1) := by decide +kernel
