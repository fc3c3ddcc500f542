theorem inlX0 : ∀ w ∈ wsX00, w ∈ wsL_law := fun _ h => List.mem_append_left _ (List.mem_append_left _ (List.mem_append_right _ h))
theorem inX0 : ∀ w ∈ wsX00, w ∈ lw_tbl := fun w h => wsL_law_in w (inlX0 w h)
theorem inlX1 : ∀ w ∈ wsX10, w ∈ wsL_law := fun _ h => List.mem_append_left _ (List.mem_append_left _ (List.mem_append_left _ (List.mem_append_right _ h)))
theorem inX1 : ∀ w ∈ wsX10, w ∈ lw_tbl := fun w h => wsL_law_in w (inlX1 w h)
theorem inlX2 : ∀ w ∈ wsX20, w ∈ wsL_law := fun _ h => List.mem_append_left _ (List.mem_append_right _ h)
theorem inX2 : ∀ w ∈ wsX20, w ∈ lw_tbl := fun w h => wsL_law_in w (inlX2 w h)
theorem inlX3 : ∀ w ∈ wsX30, w ∈ wsL_law := fun _ h => List.mem_append_left _ (List.mem_append_left _ (List.mem_append_left _ (List.mem_append_left _ (List.mem_append_right _ h))))
theorem inX3 : ∀ w ∈ wsX30, w ∈ lw_tbl := fun w h => wsL_law_in w (inlX3 w h)
theorem inX4 : ∀ w ∈ wsX40, w ∈ lw_tbl := by decide +kernel
theorem inJ9 : ∀ w ∈ wsJ90, w ∈ lw_tbl := by decide +kernel
theorem inJ10 : ∀ w ∈ wsJ100, w ∈ lw_tbl := by decide +kernel
theorem inJ7 : ∀ w ∈ wsJ70, w ∈ lw_tbl := by decide +kernel
set_option maxRecDepth 20000 in
theorem ggX0_init_X1_init : GoodIn wsX0_init wsX1_init := goodIn_r _ [10, 11, 2, 3, 12, 13, 14, 15, 16, 17, 18, 19, 20, 21, 22, 23, 24, 25, 26, 27, 28, 29, 30, 34, 35, 36, 37, 38, 39, 40, 41, 42, 43, 44, 45, 46, 47] (by decide +kernel) (by decide +kernel)
set_option maxRecDepth 20000 in
theorem gX0_init_X1_init : GoodIn wsX0_init (wsX1_init) := ggX0_init_X1_init
theorem dX0_init_0 : decode cX0_init 0 = .ok (.aload_n 0, 1) := by decide +kernel
theorem dX0_init_1 : decode cX0_init 1 = .ok (.invokespecial 3, 3) := by decide +kernel
theorem dX0_init_4 : decode cX0_init 4 = .ok (.aload_n 0, 1) := by decide +kernel
theorem dX0_init_5 : decode cX0_init 5 = .ok (.bipush 6, 2) := by decide +kernel
theorem dX0_init_7 : decode cX0_init 7 = .ok (.anewarray 9, 3) := by decide +kernel
theorem dX0_init_10 : decode cX0_init 10 = .ok (.putfield 11, 3) := by decide +kernel
theorem dX0_init_13 : decode cX0_init 13 = .ok (.iconst 0, 1) := by decide +kernel
theorem dX0_init_14 : decode cX0_init 14 = .ok (.istore_n 1, 1) := by decide +kernel
theorem dX0_init_15 : decode cX0_init 15 = .ok (.iload_n 1, 1) := by decide +kernel
theorem dX0_init_16 : decode cX0_init 16 = .ok (.bipush 6, 2) := by decide +kernel
theorem dX0_init_18 : decode cX0_init 18 = .ok (.if_icmp .ge 22, 3) := by decide +kernel
theorem dX0_init_21 : decode cX0_init 21 = .ok (.aload_n 0, 1) := by decide +kernel
theorem dX0_init_22 : decode cX0_init 22 = .ok (.getfield 11, 3) := by decide +kernel
theorem dX0_init_25 : decode cX0_init 25 = .ok (.iload_n 1, 1) := by decide +kernel
theorem dX0_init_26 : decode cX0_init 26 = .ok (.new 9, 3) := by decide +kernel
theorem dX0_init_29 : decode cX0_init 29 = .ok (.dup, 1) := by decide +kernel
theorem dX0_init_30 : decode cX0_init 30 = .ok (.invokespecial 15, 3) := by decide +kernel
theorem dX0_init_33 : decode cX0_init 33 = .ok (.aastore, 1) := by decide +kernel
theorem dX0_init_34 : decode cX0_init 34 = .ok (.iinc 1 1, 3) := by decide +kernel
theorem dX0_init_37 : decode cX0_init 37 = .ok (.goto (-22), 3) := by decide +kernel
theorem dX0_init_40 : decode cX0_init 40 = .ok (.return_, 1) := by decide +kernel
set_option maxRecDepth 20000 in
theorem ggX0_prepare_X1_copyFrom : GoodIn wsX0_prepare wsX1_copyFrom := goodIn_r _ [8, 9, 10, 11, 12, 13, 14, 15, 16, 17, 18, 19, 20, 21, 22, 23, 24, 25, 26, 30, 31, 32, 33, 34, 35, 36, 37, 38, 39, 40, 41, 42, 43] (by decide +kernel) (by decide +kernel)
set_option maxRecDepth 20000 in
theorem gX0_prepare_X1_copyFrom : GoodIn wsX0_prepare (wsV RX0 23 RX1 yX1_copyFrom wsX1_copyFrom) := goodIn_app (goodIn_of _ (by decide +kernel)) ggX0_prepare_X1_copyFrom
theorem dX0_prepare_0 : decode cX0_prepare 0 = .ok (.aload_n 0, 1) := by decide +kernel
theorem dX0_prepare_1 : decode cX0_prepare 1 = .ok (.getfield 11, 3) := by decide +kernel
theorem dX0_prepare_4 : decode cX0_prepare 4 = .ok (.aload_n 0, 1) := by decide +kernel
theorem dX0_prepare_5 : decode cX0_prepare 5 = .ok (.getfield 16, 3) := by decide +kernel
theorem dX0_prepare_8 : decode cX0_prepare 8 = .ok (.aload_n 0, 1) := by decide +kernel
theorem dX0_prepare_9 : decode cX0_prepare 9 = .ok (.getfield 20, 3) := by decide +kernel
theorem dX0_prepare_12 : decode cX0_prepare 12 = .ok (.iadd, 1) := by decide +kernel
theorem dX0_prepare_13 : decode cX0_prepare 13 = .ok (.bipush 6, 2) := by decide +kernel
theorem dX0_prepare_15 : decode cX0_prepare 15 = .ok (.irem, 1) := by decide +kernel
theorem dX0_prepare_16 : decode cX0_prepare 16 = .ok (.aaload, 1) := by decide +kernel
theorem dX0_prepare_17 : decode cX0_prepare 17 = .ok (.aload_n 1, 1) := by decide +kernel
theorem dX0_prepare_18 : decode cX0_prepare 18 = .ok (.invokevirtual 23, 3) := by decide +kernel
theorem dX0_prepare_21 : decode cX0_prepare 21 = .ok (.return_, 1) := by decide +kernel
theorem dX0_keepPrepared_0 : decode cX0_keepPrepared 0 = .ok (.aload_n 0, 1) := by decide +kernel
theorem dX0_keepPrepared_1 : decode cX0_keepPrepared 1 = .ok (.getfield 20, 3) := by decide +kernel
theorem dX0_keepPrepared_4 : decode cX0_keepPrepared 4 = .ok (.iconst 5, 1) := by decide +kernel
theorem dX0_keepPrepared_5 : decode cX0_keepPrepared 5 = .ok (.if_icmp .ge 16, 3) := by decide +kernel
theorem dX0_keepPrepared_8 : decode cX0_keepPrepared 8 = .ok (.aload_n 0, 1) := by decide +kernel
theorem dX0_keepPrepared_9 : decode cX0_keepPrepared 9 = .ok (.dup, 1) := by decide +kernel
theorem dX0_keepPrepared_10 : decode cX0_keepPrepared 10 = .ok (.getfield 20, 3) := by decide +kernel
theorem dX0_keepPrepared_13 : decode cX0_keepPrepared 13 = .ok (.iconst 1, 1) := by decide +kernel
theorem dX0_keepPrepared_14 : decode cX0_keepPrepared 14 = .ok (.iadd, 1) := by decide +kernel
theorem dX0_keepPrepared_15 : decode cX0_keepPrepared 15 = .ok (.putfield 20, 3) := by decide +kernel
theorem dX0_keepPrepared_18 : decode cX0_keepPrepared 18 = .ok (.goto 16, 3) := by decide +kernel
theorem dX0_keepPrepared_21 : decode cX0_keepPrepared 21 = .ok (.aload_n 0, 1) := by decide +kernel
theorem dX0_keepPrepared_22 : decode cX0_keepPrepared 22 = .ok (.aload_n 0, 1) := by decide +kernel
theorem dX0_keepPrepared_23 : decode cX0_keepPrepared 23 = .ok (.getfield 16, 3) := by decide +kernel
theorem dX0_keepPrepared_26 : decode cX0_keepPrepared 26 = .ok (.iconst 1, 1) := by decide +kernel
theorem dX0_keepPrepared_27 : decode cX0_keepPrepared 27 = .ok (.iadd, 1) := by decide +kernel
theorem dX0_keepPrepared_28 : decode cX0_keepPrepared 28 = .ok (.bipush 6, 2) := by decide +kernel
theorem dX0_keepPrepared_30 : decode cX0_keepPrepared 30 = .ok (.irem, 1) := by decide +kernel
theorem dX0_keepPrepared_31 : decode cX0_keepPrepared 31 = .ok (.putfield 16, 3) := by decide +kernel
theorem dX0_keepPrepared_34 : decode cX0_keepPrepared 34 = .ok (.return_, 1) := by decide +kernel
set_option maxRecDepth 20000 in
theorem ggX1_init_J7_fill_53178 : GoodIn wsX1_init wsJ7_fill_53178 := goodIn_r _ [22] (by decide +kernel) (by decide +kernel)
set_option maxRecDepth 20000 in
theorem gX1_init_J7_fill_53178 : GoodIn wsX1_init (va_wsS RX1 51 yJ7_fill_53178 wsJ7_fill_53178) := goodIn_app (goodIn_of _ (by decide +kernel)) ggX1_init_J7_fill_53178
theorem dX1_init_0 : decode cX1_init 0 = .ok (.aload_n 0, 1) := by decide +kernel
theorem dX1_init_1 : decode cX1_init 1 = .ok (.invokespecial 3, 3) := by decide +kernel
theorem dX1_init_4 : decode cX1_init 4 = .ok (.aload_n 0, 1) := by decide +kernel
theorem dX1_init_5 : decode cX1_init 5 = .ok (.iconst 5, 1) := by decide +kernel
theorem dX1_init_6 : decode cX1_init 6 = .ok (.newarray .int, 2) := by decide +kernel
theorem dX1_init_8 : decode cX1_init 8 = .ok (.putfield 9, 3) := by decide +kernel
theorem dX1_init_11 : decode cX1_init 11 = .ok (.aload_n 0, 1) := by decide +kernel
theorem dX1_init_12 : decode cX1_init 12 = .ok (.bipush 48, 2) := by decide +kernel
theorem dX1_init_14 : decode cX1_init 14 = .ok (.newarray .int, 2) := by decide +kernel
theorem dX1_init_16 : decode cX1_init 16 = .ok (.putfield 15, 3) := by decide +kernel
theorem dX1_init_19 : decode cX1_init 19 = .ok (.aload_n 0, 1) := by decide +kernel
theorem dX1_init_20 : decode cX1_init 20 = .ok (.bipush 48, 2) := by decide +kernel
theorem dX1_init_22 : decode cX1_init 22 = .ok (.newarray .int, 2) := by decide +kernel
theorem dX1_init_24 : decode cX1_init 24 = .ok (.putfield 18, 3) := by decide +kernel
theorem dX1_init_27 : decode cX1_init 27 = .ok (.aload_n 0, 1) := by decide +kernel
theorem dX1_init_28 : decode cX1_init 28 = .ok (.bipush 48, 2) := by decide +kernel
theorem dX1_init_30 : decode cX1_init 30 = .ok (.newarray .int, 2) := by decide +kernel
theorem dX1_init_32 : decode cX1_init 32 = .ok (.putfield 21, 3) := by decide +kernel
theorem dX1_init_35 : decode cX1_init 35 = .ok (.aload_n 0, 1) := by decide +kernel
theorem dX1_init_36 : decode cX1_init 36 = .ok (.bipush 48, 2) := by decide +kernel
theorem dX1_init_38 : decode cX1_init 38 = .ok (.newarray .int, 2) := by decide +kernel
theorem dX1_init_40 : decode cX1_init 40 = .ok (.putfield 24, 3) := by decide +kernel
theorem dX1_init_43 : decode cX1_init 43 = .ok (.aload_n 0, 1) := by decide +kernel
theorem dX1_init_44 : decode cX1_init 44 = .ok (.sipush 336, 3) := by decide +kernel
theorem dX1_init_47 : decode cX1_init 47 = .ok (.newarray .int, 2) := by decide +kernel
theorem dX1_init_49 : decode cX1_init 49 = .ok (.putfield 27, 3) := by decide +kernel
theorem dX1_init_52 : decode cX1_init 52 = .ok (.aload_n 0, 1) := by decide +kernel
theorem dX1_init_53 : decode cX1_init 53 = .ok (.bipush 10, 2) := by decide +kernel
theorem dX1_init_55 : decode cX1_init 55 = .ok (.newarray .int, 2) := by decide +kernel
theorem dX1_init_57 : decode cX1_init 57 = .ok (.putfield 30, 3) := by decide +kernel
theorem dX1_init_60 : decode cX1_init 60 = .ok (.aload_n 0, 1) := by decide +kernel
theorem dX1_init_61 : decode cX1_init 61 = .ok (.bipush 10, 2) := by decide +kernel
theorem dX1_init_63 : decode cX1_init 63 = .ok (.newarray .int, 2) := by decide +kernel
theorem dX1_init_65 : decode cX1_init 65 = .ok (.putfield 33, 3) := by decide +kernel
theorem dX1_init_68 : decode cX1_init 68 = .ok (.aload_n 0, 1) := by decide +kernel
theorem dX1_init_69 : decode cX1_init 69 = .ok (.bipush 10, 2) := by decide +kernel
theorem dX1_init_71 : decode cX1_init 71 = .ok (.newarray .int, 2) := by decide +kernel
theorem dX1_init_73 : decode cX1_init 73 = .ok (.putfield 36, 3) := by decide +kernel
theorem dX1_init_76 : decode cX1_init 76 = .ok (.aload_n 0, 1) := by decide +kernel
theorem dX1_init_77 : decode cX1_init 77 = .ok (.bipush 10, 2) := by decide +kernel
theorem dX1_init_79 : decode cX1_init 79 = .ok (.newarray .int, 2) := by decide +kernel
theorem dX1_init_81 : decode cX1_init 81 = .ok (.putfield 39, 3) := by decide +kernel
theorem dX1_init_84 : decode cX1_init 84 = .ok (.getstatic 42, 3) := by decide +kernel
theorem dX1_init_87 : decode cX1_init 87 = .ok (.iconst 0, 1) := by decide +kernel
theorem dX1_init_88 : decode cX1_init 88 = .ok (.aload_n 0, 1) := by decide +kernel
theorem dX1_init_89 : decode cX1_init 89 = .ok (.getfield 9, 3) := by decide +kernel
theorem dX1_init_92 : decode cX1_init 92 = .ok (.iconst 0, 1) := by decide +kernel
theorem dX1_init_93 : decode cX1_init 93 = .ok (.iconst 5, 1) := by decide +kernel
theorem dX1_init_94 : decode cX1_init 94 = .ok (.invokestatic 45, 3) := by decide +kernel
theorem dX1_init_97 : decode cX1_init 97 = .ok (.aload_n 0, 1) := by decide +kernel
theorem dX1_init_98 : decode cX1_init 98 = .ok (.getfield 27, 3) := by decide +kernel
theorem dX1_init_101 : decode cX1_init 101 = .ok (.iconst (-1), 1) := by decide +kernel
theorem dX1_init_102 : decode cX1_init 102 = .ok (.invokestatic 51, 3) := by decide +kernel
theorem dX1_init_105 : decode cX1_init 105 = .ok (.return_, 1) := by decide +kernel
theorem dX1_copyFrom_0 : decode cX1_copyFrom 0 = .ok (.aload_n 0, 1) := by decide +kernel
theorem dX1_copyFrom_1 : decode cX1_copyFrom 1 = .ok (.aload_n 1, 1) := by decide +kernel
theorem dX1_copyFrom_2 : decode cX1_copyFrom 2 = .ok (.getfield 57, 3) := by decide +kernel
theorem dX1_copyFrom_5 : decode cX1_copyFrom 5 = .ok (.putfield 57, 3) := by decide +kernel
theorem dX1_copyFrom_8 : decode cX1_copyFrom 8 = .ok (.aload_n 0, 1) := by decide +kernel
theorem dX1_copyFrom_9 : decode cX1_copyFrom 9 = .ok (.aload_n 1, 1) := by decide +kernel
theorem dX1_copyFrom_10 : decode cX1_copyFrom 10 = .ok (.getfield 61, 3) := by decide +kernel
theorem dX1_copyFrom_13 : decode cX1_copyFrom 13 = .ok (.putfield 61, 3) := by decide +kernel
theorem dX1_copyFrom_16 : decode cX1_copyFrom 16 = .ok (.aload_n 0, 1) := by decide +kernel
theorem dX1_copyFrom_17 : decode cX1_copyFrom 17 = .ok (.aload_n 1, 1) := by decide +kernel
theorem dX1_copyFrom_18 : decode cX1_copyFrom 18 = .ok (.getfield 64, 3) := by decide +kernel
theorem dX1_copyFrom_21 : decode cX1_copyFrom 21 = .ok (.putfield 64, 3) := by decide +kernel
theorem dX1_copyFrom_24 : decode cX1_copyFrom 24 = .ok (.aload_n 0, 1) := by decide +kernel
theorem dX1_copyFrom_25 : decode cX1_copyFrom 25 = .ok (.aload_n 1, 1) := by decide +kernel
theorem dX1_copyFrom_26 : decode cX1_copyFrom 26 = .ok (.getfield 67, 3) := by decide +kernel
theorem dX1_copyFrom_29 : decode cX1_copyFrom 29 = .ok (.putfield 67, 3) := by decide +kernel
theorem dX1_copyFrom_32 : decode cX1_copyFrom 32 = .ok (.aload_n 1, 1) := by decide +kernel
theorem dX1_copyFrom_33 : decode cX1_copyFrom 33 = .ok (.getfield 9, 3) := by decide +kernel
theorem dX1_copyFrom_36 : decode cX1_copyFrom 36 = .ok (.iconst 0, 1) := by decide +kernel
theorem dX1_copyFrom_37 : decode cX1_copyFrom 37 = .ok (.aload_n 0, 1) := by decide +kernel
theorem dX1_copyFrom_38 : decode cX1_copyFrom 38 = .ok (.getfield 9, 3) := by decide +kernel
theorem dX1_copyFrom_41 : decode cX1_copyFrom 41 = .ok (.iconst 0, 1) := by decide +kernel
theorem dX1_copyFrom_42 : decode cX1_copyFrom 42 = .ok (.iconst 5, 1) := by decide +kernel
theorem dX1_copyFrom_43 : decode cX1_copyFrom 43 = .ok (.invokestatic 45, 3) := by decide +kernel
theorem dX1_copyFrom_46 : decode cX1_copyFrom 46 = .ok (.aload_n 1, 1) := by decide +kernel
theorem dX1_copyFrom_47 : decode cX1_copyFrom 47 = .ok (.getfield 15, 3) := by decide +kernel
theorem dX1_copyFrom_50 : decode cX1_copyFrom 50 = .ok (.iconst 0, 1) := by decide +kernel
theorem dX1_copyFrom_51 : decode cX1_copyFrom 51 = .ok (.aload_n 0, 1) := by decide +kernel
theorem dX1_copyFrom_52 : decode cX1_copyFrom 52 = .ok (.getfield 15, 3) := by decide +kernel
theorem dX1_copyFrom_55 : decode cX1_copyFrom 55 = .ok (.iconst 0, 1) := by decide +kernel
theorem dX1_copyFrom_56 : decode cX1_copyFrom 56 = .ok (.bipush 48, 2) := by decide +kernel
theorem dX1_copyFrom_58 : decode cX1_copyFrom 58 = .ok (.invokestatic 45, 3) := by decide +kernel
theorem dX1_copyFrom_61 : decode cX1_copyFrom 61 = .ok (.aload_n 1, 1) := by decide +kernel
theorem dX1_copyFrom_62 : decode cX1_copyFrom 62 = .ok (.getfield 18, 3) := by decide +kernel
theorem dX1_copyFrom_65 : decode cX1_copyFrom 65 = .ok (.iconst 0, 1) := by decide +kernel
theorem dX1_copyFrom_66 : decode cX1_copyFrom 66 = .ok (.aload_n 0, 1) := by decide +kernel
theorem dX1_copyFrom_67 : decode cX1_copyFrom 67 = .ok (.getfield 18, 3) := by decide +kernel
theorem dX1_copyFrom_70 : decode cX1_copyFrom 70 = .ok (.iconst 0, 1) := by decide +kernel
theorem dX1_copyFrom_71 : decode cX1_copyFrom 71 = .ok (.bipush 48, 2) := by decide +kernel
theorem dX1_copyFrom_73 : decode cX1_copyFrom 73 = .ok (.invokestatic 45, 3) := by decide +kernel
theorem dX1_copyFrom_76 : decode cX1_copyFrom 76 = .ok (.aload_n 1, 1) := by decide +kernel
theorem dX1_copyFrom_77 : decode cX1_copyFrom 77 = .ok (.getfield 21, 3) := by decide +kernel
theorem dX1_copyFrom_80 : decode cX1_copyFrom 80 = .ok (.iconst 0, 1) := by decide +kernel
theorem dX1_copyFrom_81 : decode cX1_copyFrom 81 = .ok (.aload_n 0, 1) := by decide +kernel
theorem dX1_copyFrom_82 : decode cX1_copyFrom 82 = .ok (.getfield 21, 3) := by decide +kernel
theorem dX1_copyFrom_85 : decode cX1_copyFrom 85 = .ok (.iconst 0, 1) := by decide +kernel
theorem dX1_copyFrom_86 : decode cX1_copyFrom 86 = .ok (.bipush 48, 2) := by decide +kernel
theorem dX1_copyFrom_88 : decode cX1_copyFrom 88 = .ok (.invokestatic 45, 3) := by decide +kernel
theorem dX1_copyFrom_91 : decode cX1_copyFrom 91 = .ok (.aload_n 1, 1) := by decide +kernel
theorem dX1_copyFrom_92 : decode cX1_copyFrom 92 = .ok (.getfield 24, 3) := by decide +kernel
theorem dX1_copyFrom_95 : decode cX1_copyFrom 95 = .ok (.iconst 0, 1) := by decide +kernel
theorem dX1_copyFrom_96 : decode cX1_copyFrom 96 = .ok (.aload_n 0, 1) := by decide +kernel
theorem dX1_copyFrom_97 : decode cX1_copyFrom 97 = .ok (.getfield 24, 3) := by decide +kernel
theorem dX1_copyFrom_100 : decode cX1_copyFrom 100 = .ok (.iconst 0, 1) := by decide +kernel
theorem dX1_copyFrom_101 : decode cX1_copyFrom 101 = .ok (.bipush 48, 2) := by decide +kernel
theorem dX1_copyFrom_103 : decode cX1_copyFrom 103 = .ok (.invokestatic 45, 3) := by decide +kernel
theorem dX1_copyFrom_106 : decode cX1_copyFrom 106 = .ok (.aload_n 1, 1) := by decide +kernel
theorem dX1_copyFrom_107 : decode cX1_copyFrom 107 = .ok (.getfield 27, 3) := by decide +kernel
theorem dX1_copyFrom_110 : decode cX1_copyFrom 110 = .ok (.iconst 0, 1) := by decide +kernel
theorem dX1_copyFrom_111 : decode cX1_copyFrom 111 = .ok (.aload_n 0, 1) := by decide +kernel
theorem dX1_copyFrom_112 : decode cX1_copyFrom 112 = .ok (.getfield 27, 3) := by decide +kernel
theorem dX1_copyFrom_115 : decode cX1_copyFrom 115 = .ok (.iconst 0, 1) := by decide +kernel
theorem dX1_copyFrom_116 : decode cX1_copyFrom 116 = .ok (.sipush 336, 3) := by decide +kernel
theorem dX1_copyFrom_119 : decode cX1_copyFrom 119 = .ok (.invokestatic 45, 3) := by decide +kernel
theorem dX1_copyFrom_122 : decode cX1_copyFrom 122 = .ok (.aload_n 1, 1) := by decide +kernel
theorem dX1_copyFrom_123 : decode cX1_copyFrom 123 = .ok (.getfield 30, 3) := by decide +kernel
theorem dX1_copyFrom_126 : decode cX1_copyFrom 126 = .ok (.iconst 0, 1) := by decide +kernel
theorem dX1_copyFrom_127 : decode cX1_copyFrom 127 = .ok (.aload_n 0, 1) := by decide +kernel
theorem dX1_copyFrom_128 : decode cX1_copyFrom 128 = .ok (.getfield 30, 3) := by decide +kernel
theorem dX1_copyFrom_131 : decode cX1_copyFrom 131 = .ok (.iconst 0, 1) := by decide +kernel
theorem dX1_copyFrom_132 : decode cX1_copyFrom 132 = .ok (.bipush 10, 2) := by decide +kernel
theorem dX1_copyFrom_134 : decode cX1_copyFrom 134 = .ok (.invokestatic 45, 3) := by decide +kernel
theorem dX1_copyFrom_137 : decode cX1_copyFrom 137 = .ok (.aload_n 1, 1) := by decide +kernel
theorem dX1_copyFrom_138 : decode cX1_copyFrom 138 = .ok (.getfield 33, 3) := by decide +kernel
theorem dX1_copyFrom_141 : decode cX1_copyFrom 141 = .ok (.iconst 0, 1) := by decide +kernel
theorem dX1_copyFrom_142 : decode cX1_copyFrom 142 = .ok (.aload_n 0, 1) := by decide +kernel
theorem dX1_copyFrom_143 : decode cX1_copyFrom 143 = .ok (.getfield 33, 3) := by decide +kernel
theorem dX1_copyFrom_146 : decode cX1_copyFrom 146 = .ok (.iconst 0, 1) := by decide +kernel
theorem dX1_copyFrom_147 : decode cX1_copyFrom 147 = .ok (.bipush 10, 2) := by decide +kernel
theorem dX1_copyFrom_149 : decode cX1_copyFrom 149 = .ok (.invokestatic 45, 3) := by decide +kernel
theorem dX1_copyFrom_152 : decode cX1_copyFrom 152 = .ok (.aload_n 1, 1) := by decide +kernel
theorem dX1_copyFrom_153 : decode cX1_copyFrom 153 = .ok (.getfield 36, 3) := by decide +kernel
theorem dX1_copyFrom_156 : decode cX1_copyFrom 156 = .ok (.iconst 0, 1) := by decide +kernel
theorem dX1_copyFrom_157 : decode cX1_copyFrom 157 = .ok (.aload_n 0, 1) := by decide +kernel
theorem dX1_copyFrom_158 : decode cX1_copyFrom 158 = .ok (.getfield 36, 3) := by decide +kernel
theorem dX1_copyFrom_161 : decode cX1_copyFrom 161 = .ok (.iconst 0, 1) := by decide +kernel
theorem dX1_copyFrom_162 : decode cX1_copyFrom 162 = .ok (.bipush 10, 2) := by decide +kernel
theorem dX1_copyFrom_164 : decode cX1_copyFrom 164 = .ok (.invokestatic 45, 3) := by decide +kernel
theorem dX1_copyFrom_167 : decode cX1_copyFrom 167 = .ok (.aload_n 1, 1) := by decide +kernel
theorem dX1_copyFrom_168 : decode cX1_copyFrom 168 = .ok (.getfield 39, 3) := by decide +kernel
theorem dX1_copyFrom_171 : decode cX1_copyFrom 171 = .ok (.iconst 0, 1) := by decide +kernel
theorem dX1_copyFrom_172 : decode cX1_copyFrom 172 = .ok (.aload_n 0, 1) := by decide +kernel
theorem dX1_copyFrom_173 : decode cX1_copyFrom 173 = .ok (.getfield 39, 3) := by decide +kernel
theorem dX1_copyFrom_176 : decode cX1_copyFrom 176 = .ok (.iconst 0, 1) := by decide +kernel
theorem dX1_copyFrom_177 : decode cX1_copyFrom 177 = .ok (.bipush 10, 2) := by decide +kernel
theorem dX1_copyFrom_179 : decode cX1_copyFrom 179 = .ok (.invokestatic 45, 3) := by decide +kernel
theorem dX1_copyFrom_182 : decode cX1_copyFrom 182 = .ok (.return_, 1) := by decide +kernel
theorem dX1_isFree_0 : decode cX1_isFree 0 = .ok (.aload_n 0, 1) := by decide +kernel
theorem dX1_isFree_1 : decode cX1_isFree 1 = .ok (.getfield 15, 3) := by decide +kernel
theorem dX1_isFree_4 : decode cX1_isFree 4 = .ok (.iload_n 1, 1) := by decide +kernel
theorem dX1_isFree_5 : decode cX1_isFree 5 = .ok (.iaload, 1) := by decide +kernel
theorem dX1_isFree_6 : decode cX1_isFree 6 = .ok (.ifCond .ne 7, 3) := by decide +kernel
theorem dX1_isFree_9 : decode cX1_isFree 9 = .ok (.iconst 1, 1) := by decide +kernel
theorem dX1_isFree_10 : decode cX1_isFree 10 = .ok (.goto 4, 3) := by decide +kernel
theorem dX1_isFree_13 : decode cX1_isFree 13 = .ok (.iconst 0, 1) := by decide +kernel
theorem dX1_isFree_14 : decode cX1_isFree 14 = .ok (.ireturn, 1) := by decide +kernel
set_option maxRecDepth 20000 in
theorem ggX1_codeOn_X3_codeFor : GoodIn wsX1_codeOn wsX3_codeFor := goodIn_r _ [4, 5, 6, 3, 7] (by decide +kernel) (by decide +kernel)
set_option maxRecDepth 20000 in
theorem gX1_codeOn_X3_codeFor_n70 : GoodIn wsX1_codeOn (wsX3_codeFor) := ggX1_codeOn_X3_codeFor
theorem dX1_codeOn_0 : decode cX1_codeOn 0 = .ok (.aload_n 0, 1) := by decide +kernel
theorem dX1_codeOn_1 : decode cX1_codeOn 1 = .ok (.getfield 15, 3) := by decide +kernel
theorem dX1_codeOn_4 : decode cX1_codeOn 4 = .ok (.iload_n 1, 1) := by decide +kernel
theorem dX1_codeOn_5 : decode cX1_codeOn 5 = .ok (.iaload, 1) := by decide +kernel
theorem dX1_codeOn_6 : decode cX1_codeOn 6 = .ok (.iload_n 1, 1) := by decide +kernel
theorem dX1_codeOn_7 : decode cX1_codeOn 7 = .ok (.invokestatic 70, 3) := by decide +kernel
theorem dX1_codeOn_10 : decode cX1_codeOn 10 = .ok (.ireturn, 1) := by decide +kernel
theorem dX1_isLocked_0 : decode cX1_isLocked 0 = .ok (.aload_n 0, 1) := by decide +kernel
theorem dX1_isLocked_1 : decode cX1_isLocked 1 = .ok (.getfield 61, 3) := by decide +kernel
theorem dX1_isLocked_4 : decode cX1_isLocked 4 = .ok (.iconst 3, 1) := by decide +kernel
theorem dX1_isLocked_5 : decode cX1_isLocked 5 = .ok (.if_icmp .lt 7, 3) := by decide +kernel
theorem dX1_isLocked_8 : decode cX1_isLocked 8 = .ok (.iconst 1, 1) := by decide +kernel
theorem dX1_isLocked_9 : decode cX1_isLocked 9 = .ok (.goto 4, 3) := by decide +kernel
theorem dX1_isLocked_12 : decode cX1_isLocked 12 = .ok (.iconst 0, 1) := by decide +kernel
theorem dX1_isLocked_13 : decode cX1_isLocked 13 = .ok (.ireturn, 1) := by decide +kernel
theorem dX1_rests_0 : decode cX1_rests 0 = .ok (.aload_n 0, 1) := by decide +kernel
theorem dX1_rests_1 : decode cX1_rests 1 = .ok (.getfield 27, 3) := by decide +kernel
theorem dX1_rests_4 : decode cX1_rests 4 = .ok (.iload_n 1, 1) := by decide +kernel
theorem dX1_rests_5 : decode cX1_rests 5 = .ok (.iaload, 1) := by decide +kernel
theorem dX1_rests_6 : decode cX1_rests 6 = .ok (.iconst (-1), 1) := by decide +kernel
theorem dX1_rests_7 : decode cX1_rests 7 = .ok (.if_icmp .eq 27, 3) := by decide +kernel
theorem dX1_rests_10 : decode cX1_rests 10 = .ok (.aload_n 0, 1) := by decide +kernel
theorem dX1_rests_11 : decode cX1_rests 11 = .ok (.getfield 57, 3) := by decide +kernel
theorem dX1_rests_14 : decode cX1_rests 14 = .ok (.aload_n 0, 1) := by decide +kernel
theorem dX1_rests_15 : decode cX1_rests 15 = .ok (.getfield 27, 3) := by decide +kernel
theorem dX1_rests_18 : decode cX1_rests 18 = .ok (.iload_n 1, 1) := by decide +kernel
theorem dX1_rests_19 : decode cX1_rests 19 = .ok (.iaload, 1) := by decide +kernel
theorem dX1_rests_20 : decode cX1_rests 20 = .ok (.aload_n 0, 1) := by decide +kernel
theorem dX1_rests_21 : decode cX1_rests 21 = .ok (.getfield 9, 3) := by decide +kernel
theorem dX1_rests_24 : decode cX1_rests 24 = .ok (.iconst 0, 1) := by decide +kernel
theorem dX1_rests_25 : decode cX1_rests 25 = .ok (.iaload, 1) := by decide +kernel
theorem dX1_rests_26 : decode cX1_rests 26 = .ok (.iadd, 1) := by decide +kernel
theorem dX1_rests_27 : decode cX1_rests 27 = .ok (.if_icmp .ge 7, 3) := by decide +kernel
theorem dX1_rests_30 : decode cX1_rests 30 = .ok (.iconst 1, 1) := by decide +kernel
theorem dX1_rests_31 : decode cX1_rests 31 = .ok (.goto 4, 3) := by decide +kernel
theorem dX1_rests_34 : decode cX1_rests 34 = .ok (.iconst 0, 1) := by decide +kernel
theorem dX1_rests_35 : decode cX1_rests 35 = .ok (.ireturn, 1) := by decide +kernel
set_option maxRecDepth 20000 in
theorem ggX1_restsToday_X3_weekdayOf : GoodIn wsX1_restsToday wsX3_weekdayOf := goodIn_r _ [4] (by decide +kernel) (by decide +kernel)
set_option maxRecDepth 20000 in
theorem gX1_restsToday_X3_weekdayOf_n74 : GoodIn wsX1_restsToday (wsX3_weekdayOf) := ggX1_restsToday_X3_weekdayOf
set_option maxRecDepth 20000 in
theorem ggX1_restsToday_X3_indexFor : GoodIn wsX1_restsToday wsX3_indexFor := goodIn_r _ [6] (by decide +kernel) (by decide +kernel)
set_option maxRecDepth 20000 in
theorem gX1_restsToday_X3_indexFor_n78 : GoodIn wsX1_restsToday (wsX3_indexFor) := ggX1_restsToday_X3_indexFor
set_option maxRecDepth 20000 in
theorem ggX1_restsToday_X1_rests : GoodIn wsX1_restsToday wsX1_rests := goodIn_r _ [11, 12, 1, 13, 14, 15, 16, 17, 18, 19, 20, 21, 22, 23, 24, 25, 26, 27] (by decide +kernel) (by decide +kernel)
set_option maxRecDepth 20000 in
theorem gX1_restsToday_X1_rests : GoodIn wsX1_restsToday (wsV RX1 81 RX1 yX1_rests wsX1_rests) := goodIn_app (goodIn_of _ (by decide +kernel)) ggX1_restsToday_X1_rests
theorem dX1_restsToday_0 : decode cX1_restsToday 0 = .ok (.aload_n 0, 1) := by decide +kernel
theorem dX1_restsToday_1 : decode cX1_restsToday 1 = .ok (.aload_n 0, 1) := by decide +kernel
theorem dX1_restsToday_2 : decode cX1_restsToday 2 = .ok (.getfield 57, 3) := by decide +kernel
theorem dX1_restsToday_5 : decode cX1_restsToday 5 = .ok (.invokestatic 74, 3) := by decide +kernel
theorem dX1_restsToday_8 : decode cX1_restsToday 8 = .ok (.iload_n 1, 1) := by decide +kernel
theorem dX1_restsToday_9 : decode cX1_restsToday 9 = .ok (.invokestatic 78, 3) := by decide +kernel
theorem dX1_restsToday_12 : decode cX1_restsToday 12 = .ok (.invokevirtual 81, 3) := by decide +kernel
theorem dX1_restsToday_15 : decode cX1_restsToday 15 = .ok (.ireturn, 1) := by decide +kernel
set_option maxRecDepth 20000 in
theorem ggX1_placeWith_X3_indexOfCode : GoodIn wsX1_placeWith wsX3_indexOfCode := goodIn_r _ [4, 5, 6, 3, 7, 8, 9, 10, 11, 12, 13, 14, 15, 16] (by decide +kernel) (by decide +kernel)
set_option maxRecDepth 20000 in
theorem gX1_placeWith_X3_indexOfCode_n85 : GoodIn wsX1_placeWith (wsX3_indexOfCode) := ggX1_placeWith_X3_indexOfCode
theorem dX1_placeWith_0 : decode cX1_placeWith 0 = .ok (.iload_n 1, 1) := by decide +kernel
theorem dX1_placeWith_1 : decode cX1_placeWith 1 = .ok (.invokestatic 85, 3) := by decide +kernel
theorem dX1_placeWith_4 : decode cX1_placeWith 4 = .ok (.istore_n 2, 1) := by decide +kernel
theorem dX1_placeWith_5 : decode cX1_placeWith 5 = .ok (.iload_n 2, 1) := by decide +kernel
theorem dX1_placeWith_6 : decode cX1_placeWith 6 = .ok (.ifCond .ge 5, 3) := by decide +kernel
theorem dX1_placeWith_9 : decode cX1_placeWith 9 = .ok (.iconst (-1), 1) := by decide +kernel
theorem dX1_placeWith_10 : decode cX1_placeWith 10 = .ok (.ireturn, 1) := by decide +kernel
theorem dX1_placeWith_11 : decode cX1_placeWith 11 = .ok (.iload_n 2, 1) := by decide +kernel
theorem dX1_placeWith_12 : decode cX1_placeWith 12 = .ok (.bipush 48, 2) := by decide +kernel
theorem dX1_placeWith_14 : decode cX1_placeWith 14 = .ok (.irem, 1) := by decide +kernel
theorem dX1_placeWith_15 : decode cX1_placeWith 15 = .ok (.istore_n 3, 1) := by decide +kernel
theorem dX1_placeWith_16 : decode cX1_placeWith 16 = .ok (.aload_n 0, 1) := by decide +kernel
theorem dX1_placeWith_17 : decode cX1_placeWith 17 = .ok (.getfield 15, 3) := by decide +kernel
theorem dX1_placeWith_20 : decode cX1_placeWith 20 = .ok (.iload_n 3, 1) := by decide +kernel
theorem dX1_placeWith_21 : decode cX1_placeWith 21 = .ok (.iaload, 1) := by decide +kernel
theorem dX1_placeWith_22 : decode cX1_placeWith 22 = .ok (.iload_n 2, 1) := by decide +kernel
theorem dX1_placeWith_23 : decode cX1_placeWith 23 = .ok (.bipush 48, 2) := by decide +kernel
theorem dX1_placeWith_25 : decode cX1_placeWith 25 = .ok (.idiv, 1) := by decide +kernel
theorem dX1_placeWith_26 : decode cX1_placeWith 26 = .ok (.iconst 1, 1) := by decide +kernel
theorem dX1_placeWith_27 : decode cX1_placeWith 27 = .ok (.iadd, 1) := by decide +kernel
theorem dX1_placeWith_28 : decode cX1_placeWith 28 = .ok (.if_icmp .ne 7, 3) := by decide +kernel
theorem dX1_placeWith_31 : decode cX1_placeWith 31 = .ok (.iload_n 3, 1) := by decide +kernel
theorem dX1_placeWith_32 : decode cX1_placeWith 32 = .ok (.goto 4, 3) := by decide +kernel
theorem dX1_placeWith_35 : decode cX1_placeWith 35 = .ok (.iconst (-1), 1) := by decide +kernel
theorem dX1_placeWith_36 : decode cX1_placeWith 36 = .ok (.ireturn, 1) := by decide +kernel
set_option maxRecDepth 20000 in
theorem ggX1_placeToGive_X1_isFree : GoodIn wsX1_placeToGive wsX1_isFree := goodIn_r _ [5, 6, 23, 24, 25, 26, 27, 28, 29, 30, 31, 32, 33, 34, 35, 36] (by decide +kernel) (by decide +kernel)
set_option maxRecDepth 20000 in
theorem gX1_placeToGive_X1_isFree : GoodIn wsX1_placeToGive (wsV RX1 88 RX1 yX1_isFree wsX1_isFree) := goodIn_app (goodIn_of _ (by decide +kernel)) ggX1_placeToGive_X1_isFree
set_option maxRecDepth 20000 in
theorem ggX1_placeToGive_X1_restsToday : GoodIn wsX1_placeToGive wsX1_restsToday := goodIn_r _ [10, 11, 12, 13, 14, 15, 16, 17, 18, 19, 4, 20, 21, 22, 23, 24, 25, 26, 27, 28, 29, 30, 31, 32, 33, 34, 35, 36] (by decide +kernel) (by decide +kernel)
set_option maxRecDepth 20000 in
theorem gX1_placeToGive_X1_restsToday : GoodIn wsX1_placeToGive (wsV RX1 91 RX1 yX1_restsToday wsX1_restsToday) := goodIn_app (goodIn_of _ (by decide +kernel)) ggX1_placeToGive_X1_restsToday
theorem dX1_placeToGive_0 : decode cX1_placeToGive 0 = .ok (.iload_n 2, 1) := by decide +kernel
theorem dX1_placeToGive_1 : decode cX1_placeToGive 1 = .ok (.iconst 1, 1) := by decide +kernel
theorem dX1_placeToGive_2 : decode cX1_placeToGive 2 = .ok (.iadd, 1) := by decide +kernel
theorem dX1_placeToGive_3 : decode cX1_placeToGive 3 = .ok (.bipush 8, 2) := by decide +kernel
theorem dX1_placeToGive_5 : decode cX1_placeToGive 5 = .ok (.imul, 1) := by decide +kernel
theorem dX1_placeToGive_6 : decode cX1_placeToGive 6 = .ok (.istore_n 3, 1) := by decide +kernel
theorem dX1_placeToGive_7 : decode cX1_placeToGive 7 = .ok (.iload_n 1, 1) := by decide +kernel
theorem dX1_placeToGive_8 : decode cX1_placeToGive 8 = .ok (.bipush 8, 2) := by decide +kernel
theorem dX1_placeToGive_10 : decode cX1_placeToGive 10 = .ok (.imul, 1) := by decide +kernel
theorem dX1_placeToGive_11 : decode cX1_placeToGive 11 = .ok (.istore 4, 2) := by decide +kernel
theorem dX1_placeToGive_13 : decode cX1_placeToGive 13 = .ok (.iload 4, 2) := by decide +kernel
theorem dX1_placeToGive_15 : decode cX1_placeToGive 15 = .ok (.iload_n 3, 1) := by decide +kernel
theorem dX1_placeToGive_16 : decode cX1_placeToGive 16 = .ok (.if_icmp .ge 30, 3) := by decide +kernel
theorem dX1_placeToGive_19 : decode cX1_placeToGive 19 = .ok (.aload_n 0, 1) := by decide +kernel
theorem dX1_placeToGive_20 : decode cX1_placeToGive 20 = .ok (.iload 4, 2) := by decide +kernel
theorem dX1_placeToGive_22 : decode cX1_placeToGive 22 = .ok (.invokevirtual 88, 3) := by decide +kernel
theorem dX1_placeToGive_25 : decode cX1_placeToGive 25 = .ok (.ifCond .eq 15, 3) := by decide +kernel
theorem dX1_placeToGive_28 : decode cX1_placeToGive 28 = .ok (.aload_n 0, 1) := by decide +kernel
theorem dX1_placeToGive_29 : decode cX1_placeToGive 29 = .ok (.iload 4, 2) := by decide +kernel
theorem dX1_placeToGive_31 : decode cX1_placeToGive 31 = .ok (.invokevirtual 91, 3) := by decide +kernel
theorem dX1_placeToGive_34 : decode cX1_placeToGive 34 = .ok (.ifCond .ne 6, 3) := by decide +kernel
theorem dX1_placeToGive_37 : decode cX1_placeToGive 37 = .ok (.iload 4, 2) := by decide +kernel
theorem dX1_placeToGive_39 : decode cX1_placeToGive 39 = .ok (.ireturn, 1) := by decide +kernel
theorem dX1_placeToGive_40 : decode cX1_placeToGive 40 = .ok (.iinc 4 1, 3) := by decide +kernel
theorem dX1_placeToGive_43 : decode cX1_placeToGive 43 = .ok (.goto (-30), 3) := by decide +kernel
theorem dX1_placeToGive_46 : decode cX1_placeToGive 46 = .ok (.iconst (-1), 1) := by decide +kernel
theorem dX1_placeToGive_47 : decode cX1_placeToGive 47 = .ok (.ireturn, 1) := by decide +kernel
set_option maxRecDepth 20000 in
theorem ggX1_hasFreePlace_X1_isFree : GoodIn wsX1_hasFreePlace wsX1_isFree := goodIn_r _ [5, 6, 7, 8, 9, 10, 11, 12, 13, 14, 15, 16, 17, 18, 19, 20] (by decide +kernel) (by decide +kernel)
set_option maxRecDepth 20000 in
theorem gX1_hasFreePlace_X1_isFree : GoodIn wsX1_hasFreePlace (wsV RX1 88 RX1 yX1_isFree wsX1_isFree) := goodIn_app (goodIn_of _ (by decide +kernel)) ggX1_hasFreePlace_X1_isFree
theorem dX1_hasFreePlace_0 : decode cX1_hasFreePlace 0 = .ok (.iload_n 2, 1) := by decide +kernel
theorem dX1_hasFreePlace_1 : decode cX1_hasFreePlace 1 = .ok (.iconst 1, 1) := by decide +kernel
theorem dX1_hasFreePlace_2 : decode cX1_hasFreePlace 2 = .ok (.iadd, 1) := by decide +kernel
theorem dX1_hasFreePlace_3 : decode cX1_hasFreePlace 3 = .ok (.bipush 8, 2) := by decide +kernel
theorem dX1_hasFreePlace_5 : decode cX1_hasFreePlace 5 = .ok (.imul, 1) := by decide +kernel
theorem dX1_hasFreePlace_6 : decode cX1_hasFreePlace 6 = .ok (.istore_n 3, 1) := by decide +kernel
theorem dX1_hasFreePlace_7 : decode cX1_hasFreePlace 7 = .ok (.iload_n 1, 1) := by decide +kernel
theorem dX1_hasFreePlace_8 : decode cX1_hasFreePlace 8 = .ok (.bipush 8, 2) := by decide +kernel
theorem dX1_hasFreePlace_10 : decode cX1_hasFreePlace 10 = .ok (.imul, 1) := by decide +kernel
theorem dX1_hasFreePlace_11 : decode cX1_hasFreePlace 11 = .ok (.istore 4, 2) := by decide +kernel
theorem dX1_hasFreePlace_13 : decode cX1_hasFreePlace 13 = .ok (.iload 4, 2) := by decide +kernel
theorem dX1_hasFreePlace_15 : decode cX1_hasFreePlace 15 = .ok (.iload_n 3, 1) := by decide +kernel
theorem dX1_hasFreePlace_16 : decode cX1_hasFreePlace 16 = .ok (.if_icmp .ge 20, 3) := by decide +kernel
theorem dX1_hasFreePlace_19 : decode cX1_hasFreePlace 19 = .ok (.aload_n 0, 1) := by decide +kernel
theorem dX1_hasFreePlace_20 : decode cX1_hasFreePlace 20 = .ok (.iload 4, 2) := by decide +kernel
theorem dX1_hasFreePlace_22 : decode cX1_hasFreePlace 22 = .ok (.invokevirtual 88, 3) := by decide +kernel
theorem dX1_hasFreePlace_25 : decode cX1_hasFreePlace 25 = .ok (.ifCond .eq 5, 3) := by decide +kernel
theorem dX1_hasFreePlace_28 : decode cX1_hasFreePlace 28 = .ok (.iconst 1, 1) := by decide +kernel
theorem dX1_hasFreePlace_29 : decode cX1_hasFreePlace 29 = .ok (.ireturn, 1) := by decide +kernel
theorem dX1_hasFreePlace_30 : decode cX1_hasFreePlace 30 = .ok (.iinc 4 1, 3) := by decide +kernel
theorem dX1_hasFreePlace_33 : decode cX1_hasFreePlace 33 = .ok (.goto (-20), 3) := by decide +kernel
theorem dX1_hasFreePlace_36 : decode cX1_hasFreePlace 36 = .ok (.iconst 0, 1) := by decide +kernel
theorem dX1_hasFreePlace_37 : decode cX1_hasFreePlace 37 = .ok (.ireturn, 1) := by decide +kernel
set_option maxRecDepth 20000 in
theorem ggX1_put_X3_weekdayOf : GoodIn wsX1_put wsX3_weekdayOf := goodIn_r _ [8] (by decide +kernel) (by decide +kernel)
set_option maxRecDepth 20000 in
theorem gX1_put_X3_weekdayOf_n74 : GoodIn wsX1_put (wsX3_weekdayOf) := ggX1_put_X3_weekdayOf
theorem dX1_put_0 : decode cX1_put 0 = .ok (.aload_n 0, 1) := by decide +kernel
theorem dX1_put_1 : decode cX1_put 1 = .ok (.getfield 15, 3) := by decide +kernel
theorem dX1_put_4 : decode cX1_put 4 = .ok (.iload_n 1, 1) := by decide +kernel
theorem dX1_put_5 : decode cX1_put 5 = .ok (.aload_n 0, 1) := by decide +kernel
theorem dX1_put_6 : decode cX1_put 6 = .ok (.getfield 57, 3) := by decide +kernel
theorem dX1_put_9 : decode cX1_put 9 = .ok (.invokestatic 74, 3) := by decide +kernel
theorem dX1_put_12 : decode cX1_put 12 = .ok (.iastore, 1) := by decide +kernel
theorem dX1_put_13 : decode cX1_put 13 = .ok (.aload_n 0, 1) := by decide +kernel
theorem dX1_put_14 : decode cX1_put 14 = .ok (.getfield 18, 3) := by decide +kernel
theorem dX1_put_17 : decode cX1_put 17 = .ok (.iload_n 1, 1) := by decide +kernel
theorem dX1_put_18 : decode cX1_put 18 = .ok (.iload_n 2, 1) := by decide +kernel
theorem dX1_put_19 : decode cX1_put 19 = .ok (.iastore, 1) := by decide +kernel
theorem dX1_put_20 : decode cX1_put 20 = .ok (.aload_n 0, 1) := by decide +kernel
theorem dX1_put_21 : decode cX1_put 21 = .ok (.getfield 21, 3) := by decide +kernel
theorem dX1_put_24 : decode cX1_put 24 = .ok (.iload_n 1, 1) := by decide +kernel
theorem dX1_put_25 : decode cX1_put 25 = .ok (.iload_n 3, 1) := by decide +kernel
theorem dX1_put_26 : decode cX1_put 26 = .ok (.iastore, 1) := by decide +kernel
theorem dX1_put_27 : decode cX1_put 27 = .ok (.aload_n 0, 1) := by decide +kernel
theorem dX1_put_28 : decode cX1_put 28 = .ok (.getfield 24, 3) := by decide +kernel
theorem dX1_put_31 : decode cX1_put 31 = .ok (.iload_n 1, 1) := by decide +kernel
theorem dX1_put_32 : decode cX1_put 32 = .ok (.iload 4, 2) := by decide +kernel
theorem dX1_put_34 : decode cX1_put 34 = .ok (.iastore, 1) := by decide +kernel
theorem dX1_put_35 : decode cX1_put 35 = .ok (.return_, 1) := by decide +kernel
set_option maxRecDepth 20000 in
theorem ggX1_leave_X3_indexFor : GoodIn wsX1_leave wsX3_indexFor := goodIn_r _ [6] (by decide +kernel) (by decide +kernel)
set_option maxRecDepth 20000 in
theorem gX1_leave_X3_indexFor_n78 : GoodIn wsX1_leave (wsX3_indexFor) := ggX1_leave_X3_indexFor
theorem dX1_leave_0 : decode cX1_leave 0 = .ok (.aload_n 0, 1) := by decide +kernel
theorem dX1_leave_1 : decode cX1_leave 1 = .ok (.getfield 15, 3) := by decide +kernel
theorem dX1_leave_4 : decode cX1_leave 4 = .ok (.iload_n 1, 1) := by decide +kernel
theorem dX1_leave_5 : decode cX1_leave 5 = .ok (.iaload, 1) := by decide +kernel
theorem dX1_leave_6 : decode cX1_leave 6 = .ok (.ifCond .eq 29, 3) := by decide +kernel
theorem dX1_leave_9 : decode cX1_leave 9 = .ok (.aload_n 0, 1) := by decide +kernel
theorem dX1_leave_10 : decode cX1_leave 10 = .ok (.getfield 27, 3) := by decide +kernel
theorem dX1_leave_13 : decode cX1_leave 13 = .ok (.aload_n 0, 1) := by decide +kernel
theorem dX1_leave_14 : decode cX1_leave 14 = .ok (.getfield 15, 3) := by decide +kernel
theorem dX1_leave_17 : decode cX1_leave 17 = .ok (.iload_n 1, 1) := by decide +kernel
theorem dX1_leave_18 : decode cX1_leave 18 = .ok (.iaload, 1) := by decide +kernel
theorem dX1_leave_19 : decode cX1_leave 19 = .ok (.iload_n 1, 1) := by decide +kernel
theorem dX1_leave_20 : decode cX1_leave 20 = .ok (.invokestatic 78, 3) := by decide +kernel
theorem dX1_leave_23 : decode cX1_leave 23 = .ok (.aload_n 0, 1) := by decide +kernel
theorem dX1_leave_24 : decode cX1_leave 24 = .ok (.getfield 57, 3) := by decide +kernel
theorem dX1_leave_27 : decode cX1_leave 27 = .ok (.iastore, 1) := by decide +kernel
theorem dX1_leave_28 : decode cX1_leave 28 = .ok (.aload_n 0, 1) := by decide +kernel
theorem dX1_leave_29 : decode cX1_leave 29 = .ok (.getfield 15, 3) := by decide +kernel
theorem dX1_leave_32 : decode cX1_leave 32 = .ok (.iload_n 1, 1) := by decide +kernel
theorem dX1_leave_33 : decode cX1_leave 33 = .ok (.iconst 0, 1) := by decide +kernel
theorem dX1_leave_34 : decode cX1_leave 34 = .ok (.iastore, 1) := by decide +kernel
theorem dX1_leave_35 : decode cX1_leave 35 = .ok (.return_, 1) := by decide +kernel
theorem dX1_feeAfter_0 : decode cX1_feeAfter 0 = .ok (.aload_n 0, 1) := by decide +kernel
theorem dX1_feeAfter_1 : decode cX1_feeAfter 1 = .ok (.getfield 57, 3) := by decide +kernel
theorem dX1_feeAfter_4 : decode cX1_feeAfter 4 = .ok (.iload_n 2, 1) := by decide +kernel
theorem dX1_feeAfter_5 : decode cX1_feeAfter 5 = .ok (.iadd, 1) := by decide +kernel
theorem dX1_feeAfter_6 : decode cX1_feeAfter 6 = .ok (.aload_n 0, 1) := by decide +kernel
theorem dX1_feeAfter_7 : decode cX1_feeAfter 7 = .ok (.getfield 24, 3) := by decide +kernel
theorem dX1_feeAfter_10 : decode cX1_feeAfter 10 = .ok (.iload_n 1, 1) := by decide +kernel
theorem dX1_feeAfter_11 : decode cX1_feeAfter 11 = .ok (.iaload, 1) := by decide +kernel
theorem dX1_feeAfter_12 : decode cX1_feeAfter 12 = .ok (.isub, 1) := by decide +kernel
theorem dX1_feeAfter_13 : decode cX1_feeAfter 13 = .ok (.istore_n 3, 1) := by decide +kernel
theorem dX1_feeAfter_14 : decode cX1_feeAfter 14 = .ok (.iconst 0, 1) := by decide +kernel
theorem dX1_feeAfter_15 : decode cX1_feeAfter 15 = .ok (.iload_n 3, 1) := by decide +kernel
theorem dX1_feeAfter_16 : decode cX1_feeAfter 16 = .ok (.aload_n 0, 1) := by decide +kernel
theorem dX1_feeAfter_17 : decode cX1_feeAfter 17 = .ok (.getfield 9, 3) := by decide +kernel
theorem dX1_feeAfter_20 : decode cX1_feeAfter 20 = .ok (.iconst 1, 1) := by decide +kernel
theorem dX1_feeAfter_21 : decode cX1_feeAfter 21 = .ok (.iaload, 1) := by decide +kernel
theorem dX1_feeAfter_22 : decode cX1_feeAfter 22 = .ok (.isub, 1) := by decide +kernel
theorem dX1_feeAfter_23 : decode cX1_feeAfter 23 = .ok (.invokestatic 94, 3) := by decide +kernel
theorem dX1_feeAfter_26 : decode cX1_feeAfter 26 = .ok (.istore 4, 2) := by decide +kernel
theorem dX1_feeAfter_28 : decode cX1_feeAfter 28 = .ok (.aload_n 0, 1) := by decide +kernel
theorem dX1_feeAfter_29 : decode cX1_feeAfter 29 = .ok (.getfield 21, 3) := by decide +kernel
theorem dX1_feeAfter_32 : decode cX1_feeAfter 32 = .ok (.iload_n 1, 1) := by decide +kernel
theorem dX1_feeAfter_33 : decode cX1_feeAfter 33 = .ok (.iaload, 1) := by decide +kernel
theorem dX1_feeAfter_34 : decode cX1_feeAfter 34 = .ok (.iconst 1, 1) := by decide +kernel
theorem dX1_feeAfter_35 : decode cX1_feeAfter 35 = .ok (.iadd, 1) := by decide +kernel
theorem dX1_feeAfter_36 : decode cX1_feeAfter 36 = .ok (.aload_n 0, 1) := by decide +kernel
theorem dX1_feeAfter_37 : decode cX1_feeAfter 37 = .ok (.getfield 9, 3) := by decide +kernel
theorem dX1_feeAfter_40 : decode cX1_feeAfter 40 = .ok (.iconst 2, 1) := by decide +kernel
theorem dX1_feeAfter_41 : decode cX1_feeAfter 41 = .ok (.iaload, 1) := by decide +kernel
theorem dX1_feeAfter_42 : decode cX1_feeAfter 42 = .ok (.imul, 1) := by decide +kernel
theorem dX1_feeAfter_43 : decode cX1_feeAfter 43 = .ok (.iload 4, 2) := by decide +kernel
theorem dX1_feeAfter_45 : decode cX1_feeAfter 45 = .ok (.imul, 1) := by decide +kernel
theorem dX1_feeAfter_46 : decode cX1_feeAfter 46 = .ok (.ireturn, 1) := by decide +kernel
set_option maxRecDepth 20000 in
theorem ggX1_beginDay_X1_letCourierCome : GoodIn wsX1_beginDay wsX1_letCourierCome := goodIn_r _ [7, 8, 9, 10, 11, 12, 6, 13, 14, 15, 35, 36, 37, 38, 39, 40, 41, 42, 43, 44, 45, 46, 47, 48] (by decide +kernel) (by decide +kernel)
set_option maxRecDepth 20000 in
theorem gX1_beginDay_X1_letCourierCome : GoodIn wsX1_beginDay (wsV RX1 99 RX1 yX1_letCourierCome wsX1_letCourierCome) := goodIn_app (goodIn_of _ (by decide +kernel)) ggX1_beginDay_X1_letCourierCome
set_option maxRecDepth 20000 in
theorem ggX1_beginDay_X1_returnParcelsKeptTooLong : GoodIn wsX1_beginDay wsX1_returnParcelsKeptTooLong := goodIn_r _ [19, 8, 20, 21, 22, 23, 6, 24, 25, 1, 26, 9, 27, 28, 29, 30, 31, 32, 33, 34, 35, 36, 37, 38, 39, 40, 41, 42, 43, 44, 45, 46, 47, 48] (by decide +kernel) (by decide +kernel)
set_option maxRecDepth 20000 in
theorem gX1_beginDay_X1_returnParcelsKeptTooLong : GoodIn wsX1_beginDay (wsV RX1 102 RX1 yX1_returnParcelsKeptTooLong wsX1_returnParcelsKeptTooLong) := goodIn_app (goodIn_of _ (by decide +kernel)) ggX1_beginDay_X1_returnParcelsKeptTooLong
theorem dX1_beginDay_0 : decode cX1_beginDay 0 = .ok (.aload_n 0, 1) := by decide +kernel
theorem dX1_beginDay_1 : decode cX1_beginDay 1 = .ok (.dup, 1) := by decide +kernel
theorem dX1_beginDay_2 : decode cX1_beginDay 2 = .ok (.getfield 57, 3) := by decide +kernel
theorem dX1_beginDay_5 : decode cX1_beginDay 5 = .ok (.iconst 1, 1) := by decide +kernel
theorem dX1_beginDay_6 : decode cX1_beginDay 6 = .ok (.iadd, 1) := by decide +kernel
theorem dX1_beginDay_7 : decode cX1_beginDay 7 = .ok (.putfield 57, 3) := by decide +kernel
theorem dX1_beginDay_10 : decode cX1_beginDay 10 = .ok (.aload_n 0, 1) := by decide +kernel
theorem dX1_beginDay_11 : decode cX1_beginDay 11 = .ok (.iconst 0, 1) := by decide +kernel
theorem dX1_beginDay_12 : decode cX1_beginDay 12 = .ok (.putfield 61, 3) := by decide +kernel
theorem dX1_beginDay_15 : decode cX1_beginDay 15 = .ok (.aload_n 0, 1) := by decide +kernel
theorem dX1_beginDay_16 : decode cX1_beginDay 16 = .ok (.getfield 57, 3) := by decide +kernel
theorem dX1_beginDay_19 : decode cX1_beginDay 19 = .ok (.iconst 3, 1) := by decide +kernel
theorem dX1_beginDay_20 : decode cX1_beginDay 20 = .ok (.irem, 1) := by decide +kernel
theorem dX1_beginDay_21 : decode cX1_beginDay 21 = .ok (.ifCond .ne 7, 3) := by decide +kernel
theorem dX1_beginDay_24 : decode cX1_beginDay 24 = .ok (.aload_n 0, 1) := by decide +kernel
theorem dX1_beginDay_25 : decode cX1_beginDay 25 = .ok (.invokevirtual 99, 3) := by decide +kernel
theorem dX1_beginDay_28 : decode cX1_beginDay 28 = .ok (.aload_n 0, 1) := by decide +kernel
theorem dX1_beginDay_29 : decode cX1_beginDay 29 = .ok (.invokevirtual 102, 3) := by decide +kernel
theorem dX1_beginDay_32 : decode cX1_beginDay 32 = .ok (.ireturn, 1) := by decide +kernel
set_option maxRecDepth 20000 in
theorem ggX1_letCourierCome_X1_emptyBin : GoodIn wsX1_letCourierCome wsX1_emptyBin := goodIn_r _ [7, 2, 1, 8, 9, 10, 11, 12, 13, 14, 15, 16, 17, 18, 19, 20, 21, 22, 23] (by decide +kernel) (by decide +kernel)
set_option maxRecDepth 20000 in
theorem gX1_letCourierCome_X1_emptyBin : GoodIn wsX1_letCourierCome (wsV RX1 106 RX1 yX1_emptyBin wsX1_emptyBin) := goodIn_app (goodIn_of _ (by decide +kernel)) ggX1_letCourierCome_X1_emptyBin
theorem dX1_letCourierCome_0 : decode cX1_letCourierCome 0 = .ok (.iconst 0, 1) := by decide +kernel
theorem dX1_letCourierCome_1 : decode cX1_letCourierCome 1 = .ok (.istore_n 1, 1) := by decide +kernel
theorem dX1_letCourierCome_2 : decode cX1_letCourierCome 2 = .ok (.iload_n 1, 1) := by decide +kernel
theorem dX1_letCourierCome_3 : decode cX1_letCourierCome 3 = .ok (.bipush 10, 2) := by decide +kernel
theorem dX1_letCourierCome_5 : decode cX1_letCourierCome 5 = .ok (.if_icmp .ge 31, 3) := by decide +kernel
theorem dX1_letCourierCome_8 : decode cX1_letCourierCome 8 = .ok (.aload_n 0, 1) := by decide +kernel
theorem dX1_letCourierCome_9 : decode cX1_letCourierCome 9 = .ok (.getfield 30, 3) := by decide +kernel
theorem dX1_letCourierCome_12 : decode cX1_letCourierCome 12 = .ok (.iload_n 1, 1) := by decide +kernel
theorem dX1_letCourierCome_13 : decode cX1_letCourierCome 13 = .ok (.iaload, 1) := by decide +kernel
theorem dX1_letCourierCome_14 : decode cX1_letCourierCome 14 = .ok (.aload_n 0, 1) := by decide +kernel
theorem dX1_letCourierCome_15 : decode cX1_letCourierCome 15 = .ok (.getfield 9, 3) := by decide +kernel
theorem dX1_letCourierCome_18 : decode cX1_letCourierCome 18 = .ok (.iconst 4, 1) := by decide +kernel
theorem dX1_letCourierCome_19 : decode cX1_letCourierCome 19 = .ok (.iaload, 1) := by decide +kernel
theorem dX1_letCourierCome_20 : decode cX1_letCourierCome 20 = .ok (.if_icmp .lt 10, 3) := by decide +kernel
theorem dX1_letCourierCome_23 : decode cX1_letCourierCome 23 = .ok (.aload_n 0, 1) := by decide +kernel
theorem dX1_letCourierCome_24 : decode cX1_letCourierCome 24 = .ok (.iload_n 1, 1) := by decide +kernel
theorem dX1_letCourierCome_25 : decode cX1_letCourierCome 25 = .ok (.iconst 4, 1) := by decide +kernel
theorem dX1_letCourierCome_26 : decode cX1_letCourierCome 26 = .ok (.invokevirtual 106, 3) := by decide +kernel
theorem dX1_letCourierCome_29 : decode cX1_letCourierCome 29 = .ok (.pop, 1) := by decide +kernel
theorem dX1_letCourierCome_30 : decode cX1_letCourierCome 30 = .ok (.iinc 1 1, 3) := by decide +kernel
theorem dX1_letCourierCome_33 : decode cX1_letCourierCome 33 = .ok (.goto (-31), 3) := by decide +kernel
theorem dX1_letCourierCome_36 : decode cX1_letCourierCome 36 = .ok (.return_, 1) := by decide +kernel
theorem dX1_emptyBin_0 : decode cX1_emptyBin 0 = .ok (.iload_n 2, 1) := by decide +kernel
theorem dX1_emptyBin_1 : decode cX1_emptyBin 1 = .ok (.aload_n 0, 1) := by decide +kernel
theorem dX1_emptyBin_2 : decode cX1_emptyBin 2 = .ok (.getfield 9, 3) := by decide +kernel
theorem dX1_emptyBin_5 : decode cX1_emptyBin 5 = .ok (.iconst 2, 1) := by decide +kernel
theorem dX1_emptyBin_6 : decode cX1_emptyBin 6 = .ok (.iaload, 1) := by decide +kernel
theorem dX1_emptyBin_7 : decode cX1_emptyBin 7 = .ok (.imul, 1) := by decide +kernel
theorem dX1_emptyBin_8 : decode cX1_emptyBin 8 = .ok (.aload_n 0, 1) := by decide +kernel
theorem dX1_emptyBin_9 : decode cX1_emptyBin 9 = .ok (.getfield 30, 3) := by decide +kernel
theorem dX1_emptyBin_12 : decode cX1_emptyBin 12 = .ok (.iload_n 1, 1) := by decide +kernel
theorem dX1_emptyBin_13 : decode cX1_emptyBin 13 = .ok (.iaload, 1) := by decide +kernel
theorem dX1_emptyBin_14 : decode cX1_emptyBin 14 = .ok (.imul, 1) := by decide +kernel
theorem dX1_emptyBin_15 : decode cX1_emptyBin 15 = .ok (.istore_n 3, 1) := by decide +kernel
theorem dX1_emptyBin_16 : decode cX1_emptyBin 16 = .ok (.aload_n 0, 1) := by decide +kernel
theorem dX1_emptyBin_17 : decode cX1_emptyBin 17 = .ok (.getfield 33, 3) := by decide +kernel
theorem dX1_emptyBin_20 : decode cX1_emptyBin 20 = .ok (.iload_n 1, 1) := by decide +kernel
theorem dX1_emptyBin_21 : decode cX1_emptyBin 21 = .ok (.dup2, 1) := by decide +kernel
theorem dX1_emptyBin_22 : decode cX1_emptyBin 22 = .ok (.iaload, 1) := by decide +kernel
theorem dX1_emptyBin_23 : decode cX1_emptyBin 23 = .ok (.iload_n 3, 1) := by decide +kernel
theorem dX1_emptyBin_24 : decode cX1_emptyBin 24 = .ok (.iadd, 1) := by decide +kernel
theorem dX1_emptyBin_25 : decode cX1_emptyBin 25 = .ok (.iastore, 1) := by decide +kernel
theorem dX1_emptyBin_26 : decode cX1_emptyBin 26 = .ok (.aload_n 0, 1) := by decide +kernel
theorem dX1_emptyBin_27 : decode cX1_emptyBin 27 = .ok (.getfield 39, 3) := by decide +kernel
theorem dX1_emptyBin_30 : decode cX1_emptyBin 30 = .ok (.iload_n 1, 1) := by decide +kernel
theorem dX1_emptyBin_31 : decode cX1_emptyBin 31 = .ok (.dup2, 1) := by decide +kernel
theorem dX1_emptyBin_32 : decode cX1_emptyBin 32 = .ok (.iaload, 1) := by decide +kernel
theorem dX1_emptyBin_33 : decode cX1_emptyBin 33 = .ok (.aload_n 0, 1) := by decide +kernel
theorem dX1_emptyBin_34 : decode cX1_emptyBin 34 = .ok (.getfield 30, 3) := by decide +kernel
theorem dX1_emptyBin_37 : decode cX1_emptyBin 37 = .ok (.iload_n 1, 1) := by decide +kernel
theorem dX1_emptyBin_38 : decode cX1_emptyBin 38 = .ok (.iaload, 1) := by decide +kernel
theorem dX1_emptyBin_39 : decode cX1_emptyBin 39 = .ok (.iadd, 1) := by decide +kernel
theorem dX1_emptyBin_40 : decode cX1_emptyBin 40 = .ok (.iastore, 1) := by decide +kernel
theorem dX1_emptyBin_41 : decode cX1_emptyBin 41 = .ok (.aload_n 0, 1) := by decide +kernel
theorem dX1_emptyBin_42 : decode cX1_emptyBin 42 = .ok (.getfield 30, 3) := by decide +kernel
theorem dX1_emptyBin_45 : decode cX1_emptyBin 45 = .ok (.iload_n 1, 1) := by decide +kernel
theorem dX1_emptyBin_46 : decode cX1_emptyBin 46 = .ok (.iconst 0, 1) := by decide +kernel
theorem dX1_emptyBin_47 : decode cX1_emptyBin 47 = .ok (.iastore, 1) := by decide +kernel
theorem dX1_emptyBin_48 : decode cX1_emptyBin 48 = .ok (.iload_n 3, 1) := by decide +kernel
theorem dX1_emptyBin_49 : decode cX1_emptyBin 49 = .ok (.ireturn, 1) := by decide +kernel
set_option maxRecDepth 20000 in
theorem ggX1_returnParcelsKeptTooLong_X1_isKeptTooLong : GoodIn wsX1_returnParcelsKeptTooLong wsX1_isKeptTooLong := goodIn_r _ [7, 8, 9, 10, 11, 20, 21, 22, 23, 24, 25, 26, 27, 28, 29, 30, 31, 32, 33] (by decide +kernel) (by decide +kernel)
set_option maxRecDepth 20000 in
theorem gX1_returnParcelsKeptTooLong_X1_isKeptTooLong : GoodIn wsX1_returnParcelsKeptTooLong (wsV RX1 109 RX1 yX1_isKeptTooLong wsX1_isKeptTooLong) := goodIn_app (goodIn_of _ (by decide +kernel)) ggX1_returnParcelsKeptTooLong_X1_isKeptTooLong
set_option maxRecDepth 20000 in
theorem ggX1_returnParcelsKeptTooLong_X1_leave : GoodIn wsX1_returnParcelsKeptTooLong wsX1_leave := goodIn_r _ [15, 8, 16, 9, 17, 18, 19, 20, 21, 22, 23, 24, 25, 26, 27, 28, 29, 30, 31, 32, 33] (by decide +kernel) (by decide +kernel)
set_option maxRecDepth 20000 in
theorem gX1_returnParcelsKeptTooLong_X1_leave : GoodIn wsX1_returnParcelsKeptTooLong (wsV RX1 112 RX1 yX1_leave wsX1_leave) := goodIn_app (goodIn_of _ (by decide +kernel)) ggX1_returnParcelsKeptTooLong_X1_leave
theorem dX1_returnParcelsKeptTooLong_0 : decode cX1_returnParcelsKeptTooLong 0 = .ok (.iconst 0, 1) := by decide +kernel
theorem dX1_returnParcelsKeptTooLong_1 : decode cX1_returnParcelsKeptTooLong 1 = .ok (.istore_n 1, 1) := by decide +kernel
theorem dX1_returnParcelsKeptTooLong_2 : decode cX1_returnParcelsKeptTooLong 2 = .ok (.iconst 0, 1) := by decide +kernel
theorem dX1_returnParcelsKeptTooLong_3 : decode cX1_returnParcelsKeptTooLong 3 = .ok (.istore_n 2, 1) := by decide +kernel
theorem dX1_returnParcelsKeptTooLong_4 : decode cX1_returnParcelsKeptTooLong 4 = .ok (.iload_n 2, 1) := by decide +kernel
theorem dX1_returnParcelsKeptTooLong_5 : decode cX1_returnParcelsKeptTooLong 5 = .ok (.bipush 48, 2) := by decide +kernel
theorem dX1_returnParcelsKeptTooLong_7 : decode cX1_returnParcelsKeptTooLong 7 = .ok (.if_icmp .ge 56, 3) := by decide +kernel
theorem dX1_returnParcelsKeptTooLong_10 : decode cX1_returnParcelsKeptTooLong 10 = .ok (.aload_n 0, 1) := by decide +kernel
theorem dX1_returnParcelsKeptTooLong_11 : decode cX1_returnParcelsKeptTooLong 11 = .ok (.iload_n 2, 1) := by decide +kernel
theorem dX1_returnParcelsKeptTooLong_12 : decode cX1_returnParcelsKeptTooLong 12 = .ok (.invokevirtual 109, 3) := by decide +kernel
theorem dX1_returnParcelsKeptTooLong_15 : decode cX1_returnParcelsKeptTooLong 15 = .ok (.ifCond .eq 42, 3) := by decide +kernel
theorem dX1_returnParcelsKeptTooLong_18 : decode cX1_returnParcelsKeptTooLong 18 = .ok (.aload_n 0, 1) := by decide +kernel
theorem dX1_returnParcelsKeptTooLong_19 : decode cX1_returnParcelsKeptTooLong 19 = .ok (.getfield 30, 3) := by decide +kernel
theorem dX1_returnParcelsKeptTooLong_22 : decode cX1_returnParcelsKeptTooLong 22 = .ok (.aload_n 0, 1) := by decide +kernel
theorem dX1_returnParcelsKeptTooLong_23 : decode cX1_returnParcelsKeptTooLong 23 = .ok (.getfield 18, 3) := by decide +kernel
theorem dX1_returnParcelsKeptTooLong_26 : decode cX1_returnParcelsKeptTooLong 26 = .ok (.iload_n 2, 1) := by decide +kernel
theorem dX1_returnParcelsKeptTooLong_27 : decode cX1_returnParcelsKeptTooLong 27 = .ok (.iaload, 1) := by decide +kernel
theorem dX1_returnParcelsKeptTooLong_28 : decode cX1_returnParcelsKeptTooLong 28 = .ok (.iaload, 1) := by decide +kernel
theorem dX1_returnParcelsKeptTooLong_29 : decode cX1_returnParcelsKeptTooLong 29 = .ok (.bipush 9, 2) := by decide +kernel
theorem dX1_returnParcelsKeptTooLong_31 : decode cX1_returnParcelsKeptTooLong 31 = .ok (.if_icmp .ge 26, 3) := by decide +kernel
theorem dX1_returnParcelsKeptTooLong_34 : decode cX1_returnParcelsKeptTooLong 34 = .ok (.aload_n 0, 1) := by decide +kernel
theorem dX1_returnParcelsKeptTooLong_35 : decode cX1_returnParcelsKeptTooLong 35 = .ok (.getfield 30, 3) := by decide +kernel
theorem dX1_returnParcelsKeptTooLong_38 : decode cX1_returnParcelsKeptTooLong 38 = .ok (.aload_n 0, 1) := by decide +kernel
theorem dX1_returnParcelsKeptTooLong_39 : decode cX1_returnParcelsKeptTooLong 39 = .ok (.getfield 18, 3) := by decide +kernel
theorem dX1_returnParcelsKeptTooLong_42 : decode cX1_returnParcelsKeptTooLong 42 = .ok (.iload_n 2, 1) := by decide +kernel
theorem dX1_returnParcelsKeptTooLong_43 : decode cX1_returnParcelsKeptTooLong 43 = .ok (.iaload, 1) := by decide +kernel
theorem dX1_returnParcelsKeptTooLong_44 : decode cX1_returnParcelsKeptTooLong 44 = .ok (.dup2, 1) := by decide +kernel
theorem dX1_returnParcelsKeptTooLong_45 : decode cX1_returnParcelsKeptTooLong 45 = .ok (.iaload, 1) := by decide +kernel
theorem dX1_returnParcelsKeptTooLong_46 : decode cX1_returnParcelsKeptTooLong 46 = .ok (.iconst 1, 1) := by decide +kernel
theorem dX1_returnParcelsKeptTooLong_47 : decode cX1_returnParcelsKeptTooLong 47 = .ok (.iadd, 1) := by decide +kernel
theorem dX1_returnParcelsKeptTooLong_48 : decode cX1_returnParcelsKeptTooLong 48 = .ok (.iastore, 1) := by decide +kernel
theorem dX1_returnParcelsKeptTooLong_49 : decode cX1_returnParcelsKeptTooLong 49 = .ok (.aload_n 0, 1) := by decide +kernel
theorem dX1_returnParcelsKeptTooLong_50 : decode cX1_returnParcelsKeptTooLong 50 = .ok (.iload_n 2, 1) := by decide +kernel
theorem dX1_returnParcelsKeptTooLong_51 : decode cX1_returnParcelsKeptTooLong 51 = .ok (.invokevirtual 112, 3) := by decide +kernel
theorem dX1_returnParcelsKeptTooLong_54 : decode cX1_returnParcelsKeptTooLong 54 = .ok (.iinc 1 1, 3) := by decide +kernel
theorem dX1_returnParcelsKeptTooLong_57 : decode cX1_returnParcelsKeptTooLong 57 = .ok (.iinc 2 1, 3) := by decide +kernel
theorem dX1_returnParcelsKeptTooLong_60 : decode cX1_returnParcelsKeptTooLong 60 = .ok (.goto (-56), 3) := by decide +kernel
theorem dX1_returnParcelsKeptTooLong_63 : decode cX1_returnParcelsKeptTooLong 63 = .ok (.iload_n 1, 1) := by decide +kernel
theorem dX1_returnParcelsKeptTooLong_64 : decode cX1_returnParcelsKeptTooLong 64 = .ok (.ireturn, 1) := by decide +kernel
theorem dX1_isKeptTooLong_0 : decode cX1_isKeptTooLong 0 = .ok (.aload_n 0, 1) := by decide +kernel
theorem dX1_isKeptTooLong_1 : decode cX1_isKeptTooLong 1 = .ok (.getfield 15, 3) := by decide +kernel
theorem dX1_isKeptTooLong_4 : decode cX1_isKeptTooLong 4 = .ok (.iload_n 1, 1) := by decide +kernel
theorem dX1_isKeptTooLong_5 : decode cX1_isKeptTooLong 5 = .ok (.iaload, 1) := by decide +kernel
theorem dX1_isKeptTooLong_6 : decode cX1_isKeptTooLong 6 = .ok (.ifCond .eq 27, 3) := by decide +kernel
theorem dX1_isKeptTooLong_9 : decode cX1_isKeptTooLong 9 = .ok (.aload_n 0, 1) := by decide +kernel
theorem dX1_isKeptTooLong_10 : decode cX1_isKeptTooLong 10 = .ok (.getfield 57, 3) := by decide +kernel
theorem dX1_isKeptTooLong_13 : decode cX1_isKeptTooLong 13 = .ok (.aload_n 0, 1) := by decide +kernel
theorem dX1_isKeptTooLong_14 : decode cX1_isKeptTooLong 14 = .ok (.getfield 24, 3) := by decide +kernel
theorem dX1_isKeptTooLong_17 : decode cX1_isKeptTooLong 17 = .ok (.iload_n 1, 1) := by decide +kernel
theorem dX1_isKeptTooLong_18 : decode cX1_isKeptTooLong 18 = .ok (.iaload, 1) := by decide +kernel
theorem dX1_isKeptTooLong_19 : decode cX1_isKeptTooLong 19 = .ok (.isub, 1) := by decide +kernel
theorem dX1_isKeptTooLong_20 : decode cX1_isKeptTooLong 20 = .ok (.aload_n 0, 1) := by decide +kernel
theorem dX1_isKeptTooLong_21 : decode cX1_isKeptTooLong 21 = .ok (.getfield 9, 3) := by decide +kernel
theorem dX1_isKeptTooLong_24 : decode cX1_isKeptTooLong 24 = .ok (.iconst 3, 1) := by decide +kernel
theorem dX1_isKeptTooLong_25 : decode cX1_isKeptTooLong 25 = .ok (.iaload, 1) := by decide +kernel
theorem dX1_isKeptTooLong_26 : decode cX1_isKeptTooLong 26 = .ok (.if_icmp .le 7, 3) := by decide +kernel
theorem dX1_isKeptTooLong_29 : decode cX1_isKeptTooLong 29 = .ok (.iconst 1, 1) := by decide +kernel
theorem dX1_isKeptTooLong_30 : decode cX1_isKeptTooLong 30 = .ok (.goto 4, 3) := by decide +kernel
theorem dX1_isKeptTooLong_33 : decode cX1_isKeptTooLong 33 = .ok (.iconst 0, 1) := by decide +kernel
theorem dX1_isKeptTooLong_34 : decode cX1_isKeptTooLong 34 = .ok (.ireturn, 1) := by decide +kernel
set_option maxRecDepth 20000 in
theorem ggX1_parcelsOnShelves_X1_parcelsOnShelf : GoodIn wsX1_parcelsOnShelves wsX1_parcelsOnShelf := goodIn_r _ [5, 6, 7, 8, 4, 9, 10, 11, 12, 13, 14, 15, 16, 17, 18, 19, 20, 21, 22, 23, 24] (by decide +kernel) (by decide +kernel)
set_option maxRecDepth 20000 in
theorem gX1_parcelsOnShelves_X1_parcelsOnShelf : GoodIn wsX1_parcelsOnShelves (wsV RX1 116 RX1 yX1_parcelsOnShelf wsX1_parcelsOnShelf) := goodIn_app (goodIn_of _ (by decide +kernel)) ggX1_parcelsOnShelves_X1_parcelsOnShelf
theorem dX1_parcelsOnShelves_0 : decode cX1_parcelsOnShelves 0 = .ok (.iconst 0, 1) := by decide +kernel
theorem dX1_parcelsOnShelves_1 : decode cX1_parcelsOnShelves 1 = .ok (.istore_n 1, 1) := by decide +kernel
theorem dX1_parcelsOnShelves_2 : decode cX1_parcelsOnShelves 2 = .ok (.iconst 0, 1) := by decide +kernel
theorem dX1_parcelsOnShelves_3 : decode cX1_parcelsOnShelves 3 = .ok (.istore_n 2, 1) := by decide +kernel
theorem dX1_parcelsOnShelves_4 : decode cX1_parcelsOnShelves 4 = .ok (.iload_n 2, 1) := by decide +kernel
theorem dX1_parcelsOnShelves_5 : decode cX1_parcelsOnShelves 5 = .ok (.bipush 6, 2) := by decide +kernel
theorem dX1_parcelsOnShelves_7 : decode cX1_parcelsOnShelves 7 = .ok (.if_icmp .ge 17, 3) := by decide +kernel
theorem dX1_parcelsOnShelves_10 : decode cX1_parcelsOnShelves 10 = .ok (.iload_n 1, 1) := by decide +kernel
theorem dX1_parcelsOnShelves_11 : decode cX1_parcelsOnShelves 11 = .ok (.aload_n 0, 1) := by decide +kernel
theorem dX1_parcelsOnShelves_12 : decode cX1_parcelsOnShelves 12 = .ok (.iload_n 2, 1) := by decide +kernel
theorem dX1_parcelsOnShelves_13 : decode cX1_parcelsOnShelves 13 = .ok (.invokevirtual 116, 3) := by decide +kernel
theorem dX1_parcelsOnShelves_16 : decode cX1_parcelsOnShelves 16 = .ok (.iadd, 1) := by decide +kernel
theorem dX1_parcelsOnShelves_17 : decode cX1_parcelsOnShelves 17 = .ok (.istore_n 1, 1) := by decide +kernel
theorem dX1_parcelsOnShelves_18 : decode cX1_parcelsOnShelves 18 = .ok (.iinc 2 1, 3) := by decide +kernel
theorem dX1_parcelsOnShelves_21 : decode cX1_parcelsOnShelves 21 = .ok (.goto (-17), 3) := by decide +kernel
theorem dX1_parcelsOnShelves_24 : decode cX1_parcelsOnShelves 24 = .ok (.iload_n 1, 1) := by decide +kernel
theorem dX1_parcelsOnShelves_25 : decode cX1_parcelsOnShelves 25 = .ok (.ireturn, 1) := by decide +kernel
set_option maxRecDepth 20000 in
theorem ggX1_parcelsOnShelf_X1_isFree : GoodIn wsX1_parcelsOnShelf wsX1_isFree := goodIn_r _ [5, 6, 7, 8, 9, 10, 11, 12, 13, 14, 15, 16, 17, 18, 19, 20] (by decide +kernel) (by decide +kernel)
set_option maxRecDepth 20000 in
theorem gX1_parcelsOnShelf_X1_isFree : GoodIn wsX1_parcelsOnShelf (wsV RX1 88 RX1 yX1_isFree wsX1_isFree) := goodIn_app (goodIn_of _ (by decide +kernel)) ggX1_parcelsOnShelf_X1_isFree
theorem dX1_parcelsOnShelf_0 : decode cX1_parcelsOnShelf 0 = .ok (.iconst 0, 1) := by decide +kernel
theorem dX1_parcelsOnShelf_1 : decode cX1_parcelsOnShelf 1 = .ok (.istore_n 2, 1) := by decide +kernel
theorem dX1_parcelsOnShelf_2 : decode cX1_parcelsOnShelf 2 = .ok (.iconst 0, 1) := by decide +kernel
theorem dX1_parcelsOnShelf_3 : decode cX1_parcelsOnShelf 3 = .ok (.istore_n 3, 1) := by decide +kernel
theorem dX1_parcelsOnShelf_4 : decode cX1_parcelsOnShelf 4 = .ok (.iload_n 3, 1) := by decide +kernel
theorem dX1_parcelsOnShelf_5 : decode cX1_parcelsOnShelf 5 = .ok (.bipush 8, 2) := by decide +kernel
theorem dX1_parcelsOnShelf_7 : decode cX1_parcelsOnShelf 7 = .ok (.if_icmp .ge 25, 3) := by decide +kernel
theorem dX1_parcelsOnShelf_10 : decode cX1_parcelsOnShelf 10 = .ok (.aload_n 0, 1) := by decide +kernel
theorem dX1_parcelsOnShelf_11 : decode cX1_parcelsOnShelf 11 = .ok (.iload_n 1, 1) := by decide +kernel
theorem dX1_parcelsOnShelf_12 : decode cX1_parcelsOnShelf 12 = .ok (.bipush 8, 2) := by decide +kernel
theorem dX1_parcelsOnShelf_14 : decode cX1_parcelsOnShelf 14 = .ok (.imul, 1) := by decide +kernel
theorem dX1_parcelsOnShelf_15 : decode cX1_parcelsOnShelf 15 = .ok (.iload_n 3, 1) := by decide +kernel
theorem dX1_parcelsOnShelf_16 : decode cX1_parcelsOnShelf 16 = .ok (.iadd, 1) := by decide +kernel
theorem dX1_parcelsOnShelf_17 : decode cX1_parcelsOnShelf 17 = .ok (.invokevirtual 88, 3) := by decide +kernel
theorem dX1_parcelsOnShelf_20 : decode cX1_parcelsOnShelf 20 = .ok (.ifCond .ne 6, 3) := by decide +kernel
theorem dX1_parcelsOnShelf_23 : decode cX1_parcelsOnShelf 23 = .ok (.iinc 2 1, 3) := by decide +kernel
theorem dX1_parcelsOnShelf_26 : decode cX1_parcelsOnShelf 26 = .ok (.iinc 3 1, 3) := by decide +kernel
theorem dX1_parcelsOnShelf_29 : decode cX1_parcelsOnShelf 29 = .ok (.goto (-25), 3) := by decide +kernel
theorem dX1_parcelsOnShelf_32 : decode cX1_parcelsOnShelf 32 = .ok (.iload_n 2, 1) := by decide +kernel
theorem dX1_parcelsOnShelf_33 : decode cX1_parcelsOnShelf 33 = .ok (.ireturn, 1) := by decide +kernel
set_option maxRecDepth 20000 in
theorem ggX1_restingOnShelf_X1_isFree : GoodIn wsX1_restingOnShelf wsX1_isFree := goodIn_r _ [5, 6, 23, 24, 25, 26, 27, 28, 29, 30, 31, 32, 33, 34, 35, 36] (by decide +kernel) (by decide +kernel)
set_option maxRecDepth 20000 in
theorem gX1_restingOnShelf_X1_isFree : GoodIn wsX1_restingOnShelf (wsV RX1 88 RX1 yX1_isFree wsX1_isFree) := goodIn_app (goodIn_of _ (by decide +kernel)) ggX1_restingOnShelf_X1_isFree
set_option maxRecDepth 20000 in
theorem ggX1_restingOnShelf_X1_restsToday : GoodIn wsX1_restingOnShelf wsX1_restsToday := goodIn_r _ [10, 11, 12, 13, 14, 15, 16, 17, 18, 19, 4, 20, 21, 22, 23, 24, 25, 26, 27, 28, 29, 30, 31, 32, 33, 34, 35, 36] (by decide +kernel) (by decide +kernel)
set_option maxRecDepth 20000 in
theorem gX1_restingOnShelf_X1_restsToday : GoodIn wsX1_restingOnShelf (wsV RX1 91 RX1 yX1_restsToday wsX1_restsToday) := goodIn_app (goodIn_of _ (by decide +kernel)) ggX1_restingOnShelf_X1_restsToday
theorem dX1_restingOnShelf_0 : decode cX1_restingOnShelf 0 = .ok (.iconst 0, 1) := by decide +kernel
theorem dX1_restingOnShelf_1 : decode cX1_restingOnShelf 1 = .ok (.istore_n 2, 1) := by decide +kernel
theorem dX1_restingOnShelf_2 : decode cX1_restingOnShelf 2 = .ok (.iconst 0, 1) := by decide +kernel
theorem dX1_restingOnShelf_3 : decode cX1_restingOnShelf 3 = .ok (.istore_n 3, 1) := by decide +kernel
theorem dX1_restingOnShelf_4 : decode cX1_restingOnShelf 4 = .ok (.iload_n 3, 1) := by decide +kernel
theorem dX1_restingOnShelf_5 : decode cX1_restingOnShelf 5 = .ok (.bipush 8, 2) := by decide +kernel
theorem dX1_restingOnShelf_7 : decode cX1_restingOnShelf 7 = .ok (.if_icmp .ge 38, 3) := by decide +kernel
theorem dX1_restingOnShelf_10 : decode cX1_restingOnShelf 10 = .ok (.iload_n 1, 1) := by decide +kernel
theorem dX1_restingOnShelf_11 : decode cX1_restingOnShelf 11 = .ok (.bipush 8, 2) := by decide +kernel
theorem dX1_restingOnShelf_13 : decode cX1_restingOnShelf 13 = .ok (.imul, 1) := by decide +kernel
theorem dX1_restingOnShelf_14 : decode cX1_restingOnShelf 14 = .ok (.iload_n 3, 1) := by decide +kernel
theorem dX1_restingOnShelf_15 : decode cX1_restingOnShelf 15 = .ok (.iadd, 1) := by decide +kernel
theorem dX1_restingOnShelf_16 : decode cX1_restingOnShelf 16 = .ok (.istore 4, 2) := by decide +kernel
theorem dX1_restingOnShelf_18 : decode cX1_restingOnShelf 18 = .ok (.aload_n 0, 1) := by decide +kernel
theorem dX1_restingOnShelf_19 : decode cX1_restingOnShelf 19 = .ok (.iload 4, 2) := by decide +kernel
theorem dX1_restingOnShelf_21 : decode cX1_restingOnShelf 21 = .ok (.invokevirtual 88, 3) := by decide +kernel
theorem dX1_restingOnShelf_24 : decode cX1_restingOnShelf 24 = .ok (.ifCond .eq 15, 3) := by decide +kernel
theorem dX1_restingOnShelf_27 : decode cX1_restingOnShelf 27 = .ok (.aload_n 0, 1) := by decide +kernel
theorem dX1_restingOnShelf_28 : decode cX1_restingOnShelf 28 = .ok (.iload 4, 2) := by decide +kernel
theorem dX1_restingOnShelf_30 : decode cX1_restingOnShelf 30 = .ok (.invokevirtual 91, 3) := by decide +kernel
theorem dX1_restingOnShelf_33 : decode cX1_restingOnShelf 33 = .ok (.ifCond .eq 6, 3) := by decide +kernel
theorem dX1_restingOnShelf_36 : decode cX1_restingOnShelf 36 = .ok (.iinc 2 1, 3) := by decide +kernel
theorem dX1_restingOnShelf_39 : decode cX1_restingOnShelf 39 = .ok (.iinc 3 1, 3) := by decide +kernel
theorem dX1_restingOnShelf_42 : decode cX1_restingOnShelf 42 = .ok (.goto (-38), 3) := by decide +kernel
theorem dX1_restingOnShelf_45 : decode cX1_restingOnShelf 45 = .ok (.iload_n 2, 1) := by decide +kernel
theorem dX1_restingOnShelf_46 : decode cX1_restingOnShelf 46 = .ok (.ireturn, 1) := by decide +kernel
set_option maxRecDepth 20000 in
theorem ggX1_parcelsOfSender_X1_isFree : GoodIn wsX1_parcelsOfSender wsX1_isFree := goodIn_r _ [6, 7, 8, 9, 10, 11, 12, 13, 14, 15, 16, 17, 18, 19, 20, 21] (by decide +kernel) (by decide +kernel)
set_option maxRecDepth 20000 in
theorem gX1_parcelsOfSender_X1_isFree : GoodIn wsX1_parcelsOfSender (wsV RX1 88 RX1 yX1_isFree wsX1_isFree) := goodIn_app (goodIn_of _ (by decide +kernel)) ggX1_parcelsOfSender_X1_isFree
theorem dX1_parcelsOfSender_0 : decode cX1_parcelsOfSender 0 = .ok (.iconst 0, 1) := by decide +kernel
theorem dX1_parcelsOfSender_1 : decode cX1_parcelsOfSender 1 = .ok (.istore_n 2, 1) := by decide +kernel
theorem dX1_parcelsOfSender_2 : decode cX1_parcelsOfSender 2 = .ok (.iconst 0, 1) := by decide +kernel
theorem dX1_parcelsOfSender_3 : decode cX1_parcelsOfSender 3 = .ok (.istore_n 3, 1) := by decide +kernel
theorem dX1_parcelsOfSender_4 : decode cX1_parcelsOfSender 4 = .ok (.iload_n 3, 1) := by decide +kernel
theorem dX1_parcelsOfSender_5 : decode cX1_parcelsOfSender 5 = .ok (.bipush 48, 2) := by decide +kernel
theorem dX1_parcelsOfSender_7 : decode cX1_parcelsOfSender 7 = .ok (.if_icmp .ge 30, 3) := by decide +kernel
theorem dX1_parcelsOfSender_10 : decode cX1_parcelsOfSender 10 = .ok (.aload_n 0, 1) := by decide +kernel
theorem dX1_parcelsOfSender_11 : decode cX1_parcelsOfSender 11 = .ok (.iload_n 3, 1) := by decide +kernel
theorem dX1_parcelsOfSender_12 : decode cX1_parcelsOfSender 12 = .ok (.invokevirtual 88, 3) := by decide +kernel
theorem dX1_parcelsOfSender_15 : decode cX1_parcelsOfSender 15 = .ok (.ifCond .ne 16, 3) := by decide +kernel
theorem dX1_parcelsOfSender_18 : decode cX1_parcelsOfSender 18 = .ok (.aload_n 0, 1) := by decide +kernel
theorem dX1_parcelsOfSender_19 : decode cX1_parcelsOfSender 19 = .ok (.getfield 18, 3) := by decide +kernel
theorem dX1_parcelsOfSender_22 : decode cX1_parcelsOfSender 22 = .ok (.iload_n 3, 1) := by decide +kernel
theorem dX1_parcelsOfSender_23 : decode cX1_parcelsOfSender 23 = .ok (.iaload, 1) := by decide +kernel
theorem dX1_parcelsOfSender_24 : decode cX1_parcelsOfSender 24 = .ok (.iload_n 1, 1) := by decide +kernel
theorem dX1_parcelsOfSender_25 : decode cX1_parcelsOfSender 25 = .ok (.if_icmp .ne 6, 3) := by decide +kernel
theorem dX1_parcelsOfSender_28 : decode cX1_parcelsOfSender 28 = .ok (.iinc 2 1, 3) := by decide +kernel
theorem dX1_parcelsOfSender_31 : decode cX1_parcelsOfSender 31 = .ok (.iinc 3 1, 3) := by decide +kernel
theorem dX1_parcelsOfSender_34 : decode cX1_parcelsOfSender 34 = .ok (.goto (-30), 3) := by decide +kernel
theorem dX1_parcelsOfSender_37 : decode cX1_parcelsOfSender 37 = .ok (.iload_n 2, 1) := by decide +kernel
theorem dX1_parcelsOfSender_38 : decode cX1_parcelsOfSender 38 = .ok (.ireturn, 1) := by decide +kernel
set_option maxRecDepth 20000 in
theorem ggX1_feesOnShelves_X1_isFree : GoodIn wsX1_feesOnShelves wsX1_isFree := goodIn_r _ [5, 6, 19, 20, 21, 22, 23, 24, 25, 26, 27, 28, 29, 30, 31, 32] (by decide +kernel) (by decide +kernel)
set_option maxRecDepth 20000 in
theorem gX1_feesOnShelves_X1_isFree : GoodIn wsX1_feesOnShelves (wsV RX1 88 RX1 yX1_isFree wsX1_isFree) := goodIn_app (goodIn_of _ (by decide +kernel)) ggX1_feesOnShelves_X1_isFree
set_option maxRecDepth 20000 in
theorem ggX1_feesOnShelves_X1_feeAfter : GoodIn wsX1_feesOnShelves wsX1_feeAfter := goodIn_r _ [10, 11, 12, 13, 14, 15, 16, 17, 18, 19, 20, 21, 22, 23, 24, 25, 26, 27, 28, 29, 30, 31, 32] (by decide +kernel) (by decide +kernel)
set_option maxRecDepth 20000 in
theorem gX1_feesOnShelves_X1_feeAfter : GoodIn wsX1_feesOnShelves (wsV RX1 119 RX1 yX1_feeAfter wsX1_feeAfter) := goodIn_app (goodIn_of _ (by decide +kernel)) ggX1_feesOnShelves_X1_feeAfter
theorem dX1_feesOnShelves_0 : decode cX1_feesOnShelves 0 = .ok (.iconst 0, 1) := by decide +kernel
theorem dX1_feesOnShelves_1 : decode cX1_feesOnShelves 1 = .ok (.istore_n 1, 1) := by decide +kernel
theorem dX1_feesOnShelves_2 : decode cX1_feesOnShelves 2 = .ok (.iconst 0, 1) := by decide +kernel
theorem dX1_feesOnShelves_3 : decode cX1_feesOnShelves 3 = .ok (.istore_n 2, 1) := by decide +kernel
theorem dX1_feesOnShelves_4 : decode cX1_feesOnShelves 4 = .ok (.iload_n 2, 1) := by decide +kernel
theorem dX1_feesOnShelves_5 : decode cX1_feesOnShelves 5 = .ok (.bipush 48, 2) := by decide +kernel
theorem dX1_feesOnShelves_7 : decode cX1_feesOnShelves 7 = .ok (.if_icmp .ge 26, 3) := by decide +kernel
theorem dX1_feesOnShelves_10 : decode cX1_feesOnShelves 10 = .ok (.aload_n 0, 1) := by decide +kernel
theorem dX1_feesOnShelves_11 : decode cX1_feesOnShelves 11 = .ok (.iload_n 2, 1) := by decide +kernel
theorem dX1_feesOnShelves_12 : decode cX1_feesOnShelves 12 = .ok (.invokevirtual 88, 3) := by decide +kernel
theorem dX1_feesOnShelves_15 : decode cX1_feesOnShelves 15 = .ok (.ifCond .ne 12, 3) := by decide +kernel
theorem dX1_feesOnShelves_18 : decode cX1_feesOnShelves 18 = .ok (.iload_n 1, 1) := by decide +kernel
theorem dX1_feesOnShelves_19 : decode cX1_feesOnShelves 19 = .ok (.aload_n 0, 1) := by decide +kernel
theorem dX1_feesOnShelves_20 : decode cX1_feesOnShelves 20 = .ok (.iload_n 2, 1) := by decide +kernel
theorem dX1_feesOnShelves_21 : decode cX1_feesOnShelves 21 = .ok (.iconst 0, 1) := by decide +kernel
theorem dX1_feesOnShelves_22 : decode cX1_feesOnShelves 22 = .ok (.invokevirtual 119, 3) := by decide +kernel
theorem dX1_feesOnShelves_25 : decode cX1_feesOnShelves 25 = .ok (.iadd, 1) := by decide +kernel
theorem dX1_feesOnShelves_26 : decode cX1_feesOnShelves 26 = .ok (.istore_n 1, 1) := by decide +kernel
theorem dX1_feesOnShelves_27 : decode cX1_feesOnShelves 27 = .ok (.iinc 2 1, 3) := by decide +kernel
theorem dX1_feesOnShelves_30 : decode cX1_feesOnShelves 30 = .ok (.goto (-26), 3) := by decide +kernel
theorem dX1_feesOnShelves_33 : decode cX1_feesOnShelves 33 = .ok (.iload_n 1, 1) := by decide +kernel
theorem dX1_feesOnShelves_34 : decode cX1_feesOnShelves 34 = .ok (.ireturn, 1) := by decide +kernel
theorem dX2_init_0 : decode cX2_init 0 = .ok (.aload_n 0, 1) := by decide +kernel
theorem dX2_init_1 : decode cX2_init 1 = .ok (.invokespecial 5, 3) := by decide +kernel
theorem dX2_init_4 : decode cX2_init 4 = .ok (.aload_n 0, 1) := by decide +kernel
theorem dX2_init_5 : decode cX2_init 5 = .ok (.bipush 80, 2) := by decide +kernel
theorem dX2_init_7 : decode cX2_init 7 = .ok (.newarray .char, 2) := by decide +kernel
theorem dX2_init_9 : decode cX2_init 9 = .ok (.putfield 11, 3) := by decide +kernel
theorem dX2_init_12 : decode cX2_init 12 = .ok (.return_, 1) := by decide +kernel
set_option maxRecDepth 20000 in
theorem ggX3_init_X1_init : GoodIn wsX3_init wsX1_init := goodIn_r _ [23, 24, 2, 3, 25, 26, 27, 28, 29, 30, 31, 32, 33, 34, 35, 36, 37, 38, 39, 40, 41, 42, 43, 56, 57, 58, 59, 60, 61, 62, 63, 64, 65, 66, 67, 68, 69] (by decide +kernel) (by decide +kernel)
set_option maxRecDepth 20000 in
theorem gX3_init_X1_init : GoodIn wsX3_init (wsX1_init) := ggX3_init_X1_init
set_option maxRecDepth 20000 in
theorem ggX3_init_X0_init : GoodIn wsX3_init wsX0_init := goodIn_r _ [46, 47, 2, 3, 48, 49, 5, 6, 50, 22, 23, 24, 25, 26, 27, 28, 29, 30, 31, 32, 33, 34, 35, 36, 37, 38, 39, 40, 41, 42, 43, 78, 79, 80, 56, 57, 58, 59, 60, 61, 62, 63, 64, 65, 66, 67, 68, 69] (by decide +kernel) (by decide +kernel)
set_option maxRecDepth 20000 in
theorem gX3_init_X0_init : GoodIn wsX3_init (wsX0_init) := ggX3_init_X0_init
set_option maxRecDepth 20000 in
theorem ggX3_init_X2_init : GoodIn wsX3_init wsX2_init := goodIn_r _ [52, 53, 2, 3, 54, 55, 81, 82] (by decide +kernel) (by decide +kernel)
set_option maxRecDepth 20000 in
theorem gX3_init_X2_init_n31 : GoodIn wsX3_init (wsX2_init) := ggX3_init_X2_init
theorem dX3_init_0 : decode cX3_init 0 = .ok (.aload_n 0, 1) := by decide +kernel
theorem dX3_init_1 : decode cX3_init 1 = .ok (.invokespecial 3, 3) := by decide +kernel
theorem dX3_init_4 : decode cX3_init 4 = .ok (.aload_n 0, 1) := by decide +kernel
theorem dX3_init_5 : decode cX3_init 5 = .ok (.new 9, 3) := by decide +kernel
theorem dX3_init_8 : decode cX3_init 8 = .ok (.dup, 1) := by decide +kernel
theorem dX3_init_9 : decode cX3_init 9 = .ok (.invokespecial 11, 3) := by decide +kernel
theorem dX3_init_12 : decode cX3_init 12 = .ok (.putfield 12, 3) := by decide +kernel
theorem dX3_init_15 : decode cX3_init 15 = .ok (.aload_n 0, 1) := by decide +kernel
theorem dX3_init_16 : decode cX3_init 16 = .ok (.new 9, 3) := by decide +kernel
theorem dX3_init_19 : decode cX3_init 19 = .ok (.dup, 1) := by decide +kernel
theorem dX3_init_20 : decode cX3_init 20 = .ok (.invokespecial 11, 3) := by decide +kernel
theorem dX3_init_23 : decode cX3_init 23 = .ok (.putfield 16, 3) := by decide +kernel
theorem dX3_init_26 : decode cX3_init 26 = .ok (.aload_n 0, 1) := by decide +kernel
theorem dX3_init_27 : decode cX3_init 27 = .ok (.new 9, 3) := by decide +kernel
theorem dX3_init_30 : decode cX3_init 30 = .ok (.dup, 1) := by decide +kernel
theorem dX3_init_31 : decode cX3_init 31 = .ok (.invokespecial 11, 3) := by decide +kernel
theorem dX3_init_34 : decode cX3_init 34 = .ok (.putfield 19, 3) := by decide +kernel
theorem dX3_init_37 : decode cX3_init 37 = .ok (.aload_n 0, 1) := by decide +kernel
theorem dX3_init_38 : decode cX3_init 38 = .ok (.new 22, 3) := by decide +kernel
theorem dX3_init_41 : decode cX3_init 41 = .ok (.dup, 1) := by decide +kernel
theorem dX3_init_42 : decode cX3_init 42 = .ok (.invokespecial 24, 3) := by decide +kernel
theorem dX3_init_45 : decode cX3_init 45 = .ok (.putfield 25, 3) := by decide +kernel
theorem dX3_init_48 : decode cX3_init 48 = .ok (.aload_n 0, 1) := by decide +kernel
theorem dX3_init_49 : decode cX3_init 49 = .ok (.new 29, 3) := by decide +kernel
theorem dX3_init_52 : decode cX3_init 52 = .ok (.dup, 1) := by decide +kernel
theorem dX3_init_53 : decode cX3_init 53 = .ok (.invokespecial 31, 3) := by decide +kernel
theorem dX3_init_56 : decode cX3_init 56 = .ok (.putfield 32, 3) := by decide +kernel
theorem dX3_init_59 : decode cX3_init 59 = .ok (.aload_n 0, 1) := by decide +kernel
theorem dX3_init_60 : decode cX3_init 60 = .ok (.iconst 0, 1) := by decide +kernel
theorem dX3_init_61 : decode cX3_init 61 = .ok (.putfield 36, 3) := by decide +kernel
theorem dX3_init_64 : decode cX3_init 64 = .ok (.aload_n 0, 1) := by decide +kernel
theorem dX3_init_65 : decode cX3_init 65 = .ok (.bipush (-6), 2) := by decide +kernel
theorem dX3_init_67 : decode cX3_init 67 = .ok (.putfield 40, 3) := by decide +kernel
theorem dX3_init_70 : decode cX3_init 70 = .ok (.aload_n 0, 1) := by decide +kernel
theorem dX3_init_71 : decode cX3_init 71 = .ok (.bipush (-6), 2) := by decide +kernel
theorem dX3_init_73 : decode cX3_init 73 = .ok (.putfield 44, 3) := by decide +kernel
theorem dX3_init_76 : decode cX3_init 76 = .ok (.return_, 1) := by decide +kernel
set_option maxRecDepth 20000 in
theorem ggX3_set_X0_prepare : GoodIn wsX3_set wsX0_prepare := goodIn_r _ [7, 8, 9, 10, 11, 12, 13, 14, 15, 16, 17, 18, 19, 20, 21, 22, 23, 24, 25, 26, 27, 28, 29, 30, 31, 32, 33, 64, 65, 66, 67, 68, 69, 70, 71, 72, 73, 74, 75, 76, 77, 78, 79, 80] (by decide +kernel) (by decide +kernel)
set_option maxRecDepth 20000 in
theorem gX3_set_X0_prepare : GoodIn wsX3_set (wsV RX3 47 RX0 yX0_prepare wsX0_prepare) := goodIn_app (goodIn_of _ (by decide +kernel)) ggX3_set_X0_prepare
set_option maxRecDepth 20000 in
theorem ggX3_set_X3_changeSetting : GoodIn wsX3_set wsX3_changeSetting := goodIn_r _ [38, 39, 40, 2, 41, 42, 43, 37, 44, 56, 57, 58, 59, 60, 61, 62, 63, 67, 68, 69, 70, 71, 72, 73, 74, 75, 76, 77, 78, 79, 80] (by decide +kernel) (by decide +kernel)
set_option maxRecDepth 20000 in
theorem gX3_set_X3_changeSetting : GoodIn wsX3_set (wsV RX3 51 RX3 yX3_changeSetting wsX3_changeSetting) := goodIn_app (goodIn_of _ (by decide +kernel)) ggX3_set_X3_changeSetting
set_option maxRecDepth 20000 in
theorem ggX3_set_X3_recorded : GoodIn wsX3_set wsX3_recorded := goodIn_r _ [48, 1, 49, 50, 37, 51, 42, 43, 44, 52, 53, 54, 6, 55, 10, 9, 56, 57, 58, 59, 60, 61, 62, 63, 64, 65, 66] (by decide +kernel) (by decide +kernel)
set_option maxRecDepth 20000 in
theorem gX3_set_X3_recorded : GoodIn wsX3_set (wsV RX3 55 RX3 yX3_recorded wsX3_recorded) := goodIn_app (goodIn_of _ (by decide +kernel)) ggX3_set_X3_recorded
theorem dX3_set_0 : decode cX3_set 0 = .ok (.aload_n 0, 1) := by decide +kernel
theorem dX3_set_1 : decode cX3_set 1 = .ok (.getfield 25, 3) := by decide +kernel
theorem dX3_set_4 : decode cX3_set 4 = .ok (.aload_n 0, 1) := by decide +kernel
theorem dX3_set_5 : decode cX3_set 5 = .ok (.getfield 12, 3) := by decide +kernel
theorem dX3_set_8 : decode cX3_set 8 = .ok (.invokevirtual 47, 3) := by decide +kernel
theorem dX3_set_11 : decode cX3_set 11 = .ok (.aload_n 0, 1) := by decide +kernel
theorem dX3_set_12 : decode cX3_set 12 = .ok (.aload_n 0, 1) := by decide +kernel
theorem dX3_set_13 : decode cX3_set 13 = .ok (.iload_n 1, 1) := by decide +kernel
theorem dX3_set_14 : decode cX3_set 14 = .ok (.iload_n 2, 1) := by decide +kernel
theorem dX3_set_15 : decode cX3_set 15 = .ok (.invokevirtual 51, 3) := by decide +kernel
theorem dX3_set_18 : decode cX3_set 18 = .ok (.invokevirtual 55, 3) := by decide +kernel
theorem dX3_set_21 : decode cX3_set 21 = .ok (.ireturn, 1) := by decide +kernel
set_option maxRecDepth 20000 in
theorem ggX3_setting_X3_isWithin : GoodIn wsX3_setting wsX3_isWithin := goodIn_r _ [6] (by decide +kernel) (by decide +kernel)
set_option maxRecDepth 20000 in
theorem gX3_setting_X3_isWithin : GoodIn wsX3_setting (va_wsS RX3 59 yX3_isWithin wsX3_isWithin) := goodIn_app (goodIn_of _ (by decide +kernel)) ggX3_setting_X3_isWithin
theorem dX3_setting_0 : decode cX3_setting 0 = .ok (.iload_n 1, 1) := by decide +kernel
theorem dX3_setting_1 : decode cX3_setting 1 = .ok (.iconst 0, 1) := by decide +kernel
theorem dX3_setting_2 : decode cX3_setting 2 = .ok (.iconst 4, 1) := by decide +kernel
theorem dX3_setting_3 : decode cX3_setting 3 = .ok (.invokestatic 59, 3) := by decide +kernel
theorem dX3_setting_6 : decode cX3_setting 6 = .ok (.ifCond .ne 6, 3) := by decide +kernel
theorem dX3_setting_9 : decode cX3_setting 9 = .ok (.bipush (-2), 2) := by decide +kernel
theorem dX3_setting_11 : decode cX3_setting 11 = .ok (.ireturn, 1) := by decide +kernel
theorem dX3_setting_12 : decode cX3_setting 12 = .ok (.aload_n 0, 1) := by decide +kernel
theorem dX3_setting_13 : decode cX3_setting 13 = .ok (.getfield 12, 3) := by decide +kernel
theorem dX3_setting_16 : decode cX3_setting 16 = .ok (.getfield 63, 3) := by decide +kernel
theorem dX3_setting_19 : decode cX3_setting 19 = .ok (.iload_n 1, 1) := by decide +kernel
theorem dX3_setting_20 : decode cX3_setting 20 = .ok (.iaload, 1) := by decide +kernel
theorem dX3_setting_21 : decode cX3_setting 21 = .ok (.ireturn, 1) := by decide +kernel
set_option maxRecDepth 20000 in
theorem ggX3_come_X0_prepare : GoodIn wsX3_come wsX0_prepare := goodIn_r _ [7, 8, 9, 10, 11, 12, 13, 14, 15, 16, 17, 18, 19, 20, 21, 22, 23, 24, 25, 26, 27, 28, 29, 30, 31, 32, 33, 113, 114, 115, 116, 117, 118, 119, 120, 121, 122, 123, 124, 125, 126, 127, 128, 129] (by decide +kernel) (by decide +kernel)
set_option maxRecDepth 20000 in
theorem gX3_come_X0_prepare : GoodIn wsX3_come (wsV RX3 47 RX0 yX0_prepare wsX0_prepare) := goodIn_app (goodIn_of _ (by decide +kernel)) ggX3_come_X0_prepare
set_option maxRecDepth 20000 in
theorem ggX3_come_X3_letCome : GoodIn wsX3_come wsX3_letCome := goodIn_r _ [38, 2, 39, 40, 41, 42, 37, 43, 44, 45, 46, 47, 48, 49, 14, 50, 51, 52, 53, 54, 25, 55, 56, 57, 58, 16, 59, 60, 61, 62, 63, 64, 65, 66, 29, 20, 67, 68, 69, 70, 71, 72, 73, 74, 75, 76, 77, 78, 79, 80, 81, 82, 83, 84, 26, 27, 28, 85, 86, 87, 88, 89, 90, 91, 92, 93, 105, 106, 107, 108, 109, 110, 111, 112, 116, 117, 118, 119, 120, 121, 122, 123, 124, 125, 126, 127, 128, 129] (by decide +kernel) (by decide +kernel)
set_option maxRecDepth 20000 in
theorem gX3_come_X3_letCome : GoodIn wsX3_come (wsV RX3 67 RX3 yX3_letCome wsX3_letCome) := goodIn_app (goodIn_of _ (by decide +kernel)) ggX3_come_X3_letCome
set_option maxRecDepth 20000 in
theorem ggX3_come_X3_recorded : GoodIn wsX3_come wsX3_recorded := goodIn_r _ [97, 1, 98, 99, 37, 100, 41, 42, 43, 101, 102, 103, 6, 104, 10, 9, 105, 106, 107, 108, 109, 110, 111, 112, 113, 114, 115] (by decide +kernel) (by decide +kernel)
set_option maxRecDepth 20000 in
theorem gX3_come_X3_recorded : GoodIn wsX3_come (wsV RX3 55 RX3 yX3_recorded wsX3_recorded) := goodIn_app (goodIn_of _ (by decide +kernel)) ggX3_come_X3_recorded
theorem dX3_come_0 : decode cX3_come 0 = .ok (.aload_n 0, 1) := by decide +kernel
theorem dX3_come_1 : decode cX3_come 1 = .ok (.getfield 25, 3) := by decide +kernel
theorem dX3_come_4 : decode cX3_come 4 = .ok (.aload_n 0, 1) := by decide +kernel
theorem dX3_come_5 : decode cX3_come 5 = .ok (.getfield 12, 3) := by decide +kernel
theorem dX3_come_8 : decode cX3_come 8 = .ok (.invokevirtual 47, 3) := by decide +kernel
theorem dX3_come_11 : decode cX3_come 11 = .ok (.aload_n 0, 1) := by decide +kernel
theorem dX3_come_12 : decode cX3_come 12 = .ok (.aload_n 0, 1) := by decide +kernel
theorem dX3_come_13 : decode cX3_come 13 = .ok (.iload_n 1, 1) := by decide +kernel
theorem dX3_come_14 : decode cX3_come 14 = .ok (.iload_n 2, 1) := by decide +kernel
theorem dX3_come_15 : decode cX3_come 15 = .ok (.invokevirtual 67, 3) := by decide +kernel
theorem dX3_come_18 : decode cX3_come 18 = .ok (.invokevirtual 55, 3) := by decide +kernel
theorem dX3_come_21 : decode cX3_come 21 = .ok (.ireturn, 1) := by decide +kernel
set_option maxRecDepth 20000 in
theorem ggX3_fetch_X0_prepare : GoodIn wsX3_fetch wsX0_prepare := goodIn_r _ [7, 8, 9, 10, 11, 12, 13, 14, 15, 16, 17, 18, 19, 20, 21, 22, 23, 24, 25, 26, 27, 28, 29, 30, 31, 32, 33, 102, 103, 104, 105, 106, 107, 108, 109, 110, 111, 112, 113, 114, 115, 116, 117, 118] (by decide +kernel) (by decide +kernel)
set_option maxRecDepth 20000 in
theorem gX3_fetch_X0_prepare : GoodIn wsX3_fetch (wsV RX3 47 RX0 yX0_prepare wsX0_prepare) := goodIn_app (goodIn_of _ (by decide +kernel)) ggX3_fetch_X0_prepare
set_option maxRecDepth 20000 in
theorem ggX3_fetch_X3_letFetch : GoodIn wsX3_fetch wsX3_letFetch := goodIn_r _ [38, 2, 39, 40, 41, 42, 43, 44, 37, 45, 46, 47, 48, 14, 49, 17, 50, 51, 52, 53, 54, 55, 56, 57, 58, 59, 25, 60, 61, 62, 63, 64, 65, 66, 67, 68, 69, 70, 71, 72, 73, 74, 16, 28, 20, 75, 76, 77, 78, 27, 79, 80, 81, 82, 29, 94, 95, 96, 97, 98, 99, 100, 101, 105, 106, 107, 108, 109, 110, 111, 112, 113, 114, 115, 116, 117, 118] (by decide +kernel) (by decide +kernel)
set_option maxRecDepth 20000 in
theorem gX3_fetch_X3_letFetch : GoodIn wsX3_fetch (wsV RX3 70 RX3 yX3_letFetch wsX3_letFetch) := goodIn_app (goodIn_of _ (by decide +kernel)) ggX3_fetch_X3_letFetch
set_option maxRecDepth 20000 in
theorem ggX3_fetch_X3_recorded : GoodIn wsX3_fetch wsX3_recorded := goodIn_r _ [86, 1, 87, 88, 37, 89, 43, 44, 45, 90, 91, 92, 6, 93, 10, 9, 94, 95, 96, 97, 98, 99, 100, 101, 102, 103, 104] (by decide +kernel) (by decide +kernel)
set_option maxRecDepth 20000 in
theorem gX3_fetch_X3_recorded : GoodIn wsX3_fetch (wsV RX3 55 RX3 yX3_recorded wsX3_recorded) := goodIn_app (goodIn_of _ (by decide +kernel)) ggX3_fetch_X3_recorded
theorem dX3_fetch_0 : decode cX3_fetch 0 = .ok (.aload_n 0, 1) := by decide +kernel
theorem dX3_fetch_1 : decode cX3_fetch 1 = .ok (.getfield 25, 3) := by decide +kernel
theorem dX3_fetch_4 : decode cX3_fetch 4 = .ok (.aload_n 0, 1) := by decide +kernel
theorem dX3_fetch_5 : decode cX3_fetch 5 = .ok (.getfield 12, 3) := by decide +kernel
theorem dX3_fetch_8 : decode cX3_fetch 8 = .ok (.invokevirtual 47, 3) := by decide +kernel
theorem dX3_fetch_11 : decode cX3_fetch 11 = .ok (.aload_n 0, 1) := by decide +kernel
theorem dX3_fetch_12 : decode cX3_fetch 12 = .ok (.aload_n 0, 1) := by decide +kernel
theorem dX3_fetch_13 : decode cX3_fetch 13 = .ok (.iload_n 1, 1) := by decide +kernel
theorem dX3_fetch_14 : decode cX3_fetch 14 = .ok (.invokevirtual 70, 3) := by decide +kernel
theorem dX3_fetch_17 : decode cX3_fetch 17 = .ok (.invokevirtual 55, 3) := by decide +kernel
theorem dX3_fetch_20 : decode cX3_fetch 20 = .ok (.ireturn, 1) := by decide +kernel
set_option maxRecDepth 20000 in
theorem ggX3_refuse_X0_prepare : GoodIn wsX3_refuse wsX0_prepare := goodIn_r _ [7, 8, 9, 10, 11, 12, 13, 14, 15, 16, 17, 18, 19, 20, 21, 22, 23, 24, 25, 26, 27, 28, 29, 30, 31, 32, 33, 97, 98, 99, 100, 101, 102, 103, 104, 105, 106, 107, 108, 109, 110, 111, 112, 113] (by decide +kernel) (by decide +kernel)
set_option maxRecDepth 20000 in
theorem gX3_refuse_X0_prepare : GoodIn wsX3_refuse (wsV RX3 47 RX0 yX0_prepare wsX0_prepare) := goodIn_app (goodIn_of _ (by decide +kernel)) ggX3_refuse_X0_prepare
set_option maxRecDepth 20000 in
theorem ggX3_refuse_X3_letRefuse : GoodIn wsX3_refuse wsX3_letRefuse := goodIn_r _ [38, 2, 39, 40, 41, 42, 43, 14, 44, 25, 45, 37, 46, 47, 48, 49, 50, 51, 52, 53, 54, 55, 56, 57, 58, 59, 60, 61, 62, 63, 64, 65, 66, 67, 29, 16, 20, 68, 69, 70, 71, 72, 73, 74, 75, 76, 77, 89, 90, 91, 92, 93, 94, 95, 96, 100, 101, 102, 103, 104, 105, 106, 107, 108, 109, 110, 111, 112, 113] (by decide +kernel) (by decide +kernel)
set_option maxRecDepth 20000 in
theorem gX3_refuse_X3_letRefuse : GoodIn wsX3_refuse (wsV RX3 73 RX3 yX3_letRefuse wsX3_letRefuse) := goodIn_app (goodIn_of _ (by decide +kernel)) ggX3_refuse_X3_letRefuse
set_option maxRecDepth 20000 in
theorem ggX3_refuse_X3_recorded : GoodIn wsX3_refuse wsX3_recorded := goodIn_r _ [81, 1, 82, 83, 37, 84, 47, 48, 49, 85, 86, 87, 6, 88, 10, 9, 89, 90, 91, 92, 93, 94, 95, 96, 97, 98, 99] (by decide +kernel) (by decide +kernel)
set_option maxRecDepth 20000 in
theorem gX3_refuse_X3_recorded : GoodIn wsX3_refuse (wsV RX3 55 RX3 yX3_recorded wsX3_recorded) := goodIn_app (goodIn_of _ (by decide +kernel)) ggX3_refuse_X3_recorded
theorem dX3_refuse_0 : decode cX3_refuse 0 = .ok (.aload_n 0, 1) := by decide +kernel
theorem dX3_refuse_1 : decode cX3_refuse 1 = .ok (.getfield 25, 3) := by decide +kernel
theorem dX3_refuse_4 : decode cX3_refuse 4 = .ok (.aload_n 0, 1) := by decide +kernel
theorem dX3_refuse_5 : decode cX3_refuse 5 = .ok (.getfield 12, 3) := by decide +kernel
theorem dX3_refuse_8 : decode cX3_refuse 8 = .ok (.invokevirtual 47, 3) := by decide +kernel
theorem dX3_refuse_11 : decode cX3_refuse 11 = .ok (.aload_n 0, 1) := by decide +kernel
theorem dX3_refuse_12 : decode cX3_refuse 12 = .ok (.aload_n 0, 1) := by decide +kernel
theorem dX3_refuse_13 : decode cX3_refuse 13 = .ok (.iload_n 1, 1) := by decide +kernel
theorem dX3_refuse_14 : decode cX3_refuse 14 = .ok (.invokevirtual 73, 3) := by decide +kernel
theorem dX3_refuse_17 : decode cX3_refuse 17 = .ok (.invokevirtual 55, 3) := by decide +kernel
theorem dX3_refuse_20 : decode cX3_refuse 20 = .ok (.ireturn, 1) := by decide +kernel
set_option maxRecDepth 20000 in
theorem ggX3_move_X0_prepare : GoodIn wsX3_move wsX0_prepare := goodIn_r _ [7, 8, 9, 10, 11, 12, 13, 14, 15, 16, 17, 18, 19, 20, 21, 22, 23, 24, 25, 26, 27, 28, 29, 30, 31, 32, 33, 134, 135, 136, 137, 138, 139, 140, 141, 142, 143, 144, 145, 146, 147, 148, 149, 150] (by decide +kernel) (by decide +kernel)
set_option maxRecDepth 20000 in
theorem gX3_move_X0_prepare : GoodIn wsX3_move (wsV RX3 47 RX0 yX0_prepare wsX0_prepare) := goodIn_app (goodIn_of _ (by decide +kernel)) ggX3_move_X0_prepare
set_option maxRecDepth 20000 in
theorem ggX3_move_X3_moveParcel : GoodIn wsX3_move wsX3_moveParcel := goodIn_r _ [38, 2, 39, 40, 41, 42, 43, 44, 14, 45, 25, 46, 37, 47, 48, 49, 50, 51, 52, 53, 54, 55, 56, 57, 58, 59, 60, 61, 62, 63, 64, 65, 66, 67, 68, 29, 16, 20, 69, 70, 71, 72, 73, 74, 75, 76, 77, 78, 79, 80, 81, 82, 83, 84, 85, 86, 87, 88, 89, 90, 91, 92, 93, 94, 95, 96, 97, 98, 99, 100, 101, 102, 103, 104, 26, 27, 28, 105, 106, 107, 108, 109, 110, 111, 112, 113, 114, 126, 127, 128, 129, 130, 131, 132, 133, 137, 138, 139, 140, 141, 142, 143, 144, 145, 146, 147, 148, 149, 150] (by decide +kernel) (by decide +kernel)
set_option maxRecDepth 20000 in
theorem gX3_move_X3_moveParcel : GoodIn wsX3_move (wsV RX3 76 RX3 yX3_moveParcel wsX3_moveParcel) := goodIn_app (goodIn_of _ (by decide +kernel)) ggX3_move_X3_moveParcel
set_option maxRecDepth 20000 in
theorem ggX3_move_X3_recorded : GoodIn wsX3_move wsX3_recorded := goodIn_r _ [118, 1, 119, 120, 37, 121, 48, 49, 50, 122, 123, 124, 6, 125, 10, 9, 126, 127, 128, 129, 130, 131, 132, 133, 134, 135, 136] (by decide +kernel) (by decide +kernel)
set_option maxRecDepth 20000 in
theorem gX3_move_X3_recorded : GoodIn wsX3_move (wsV RX3 55 RX3 yX3_recorded wsX3_recorded) := goodIn_app (goodIn_of _ (by decide +kernel)) ggX3_move_X3_recorded
theorem dX3_move_0 : decode cX3_move 0 = .ok (.aload_n 0, 1) := by decide +kernel
theorem dX3_move_1 : decode cX3_move 1 = .ok (.getfield 25, 3) := by decide +kernel
theorem dX3_move_4 : decode cX3_move 4 = .ok (.aload_n 0, 1) := by decide +kernel
theorem dX3_move_5 : decode cX3_move 5 = .ok (.getfield 12, 3) := by decide +kernel
theorem dX3_move_8 : decode cX3_move 8 = .ok (.invokevirtual 47, 3) := by decide +kernel
theorem dX3_move_11 : decode cX3_move 11 = .ok (.aload_n 0, 1) := by decide +kernel
theorem dX3_move_12 : decode cX3_move 12 = .ok (.aload_n 0, 1) := by decide +kernel
theorem dX3_move_13 : decode cX3_move 13 = .ok (.iload_n 1, 1) := by decide +kernel
theorem dX3_move_14 : decode cX3_move 14 = .ok (.iload_n 2, 1) := by decide +kernel
theorem dX3_move_15 : decode cX3_move 15 = .ok (.invokevirtual 76, 3) := by decide +kernel
theorem dX3_move_18 : decode cX3_move 18 = .ok (.invokevirtual 55, 3) := by decide +kernel
theorem dX3_move_21 : decode cX3_move 21 = .ok (.ireturn, 1) := by decide +kernel
set_option maxRecDepth 20000 in
theorem ggX3_pass_X0_prepare : GoodIn wsX3_pass wsX0_prepare := goodIn_r _ [7, 8, 9, 10, 11, 12, 13, 14, 15, 16, 17, 18, 19, 20, 21, 22, 23, 24, 25, 26, 27, 28, 29, 30, 31, 32, 33, 88, 89, 90, 91, 92, 93, 94, 95, 96, 97, 98, 99, 100, 101, 102, 103, 104] (by decide +kernel) (by decide +kernel)
set_option maxRecDepth 20000 in
theorem gX3_pass_X0_prepare : GoodIn wsX3_pass (wsV RX3 47 RX0 yX0_prepare wsX0_prepare) := goodIn_app (goodIn_of _ (by decide +kernel)) ggX3_pass_X0_prepare
set_option maxRecDepth 20000 in
theorem ggX3_pass_X3_letPass : GoodIn wsX3_pass wsX3_letPass := goodIn_r _ [38, 2, 39, 40, 41, 37, 42, 43, 44, 45, 14, 46, 16, 17, 47, 48, 49, 50, 30, 20, 51, 52, 53, 54, 31, 33, 55, 56, 57, 58, 26, 59, 60, 61, 62, 25, 28, 63, 64, 65, 66, 29, 67, 68, 80, 81, 82, 83, 84, 85, 86, 87, 91, 92, 93, 94, 95, 96, 97, 98, 99, 100, 101, 102, 103, 104] (by decide +kernel) (by decide +kernel)
set_option maxRecDepth 20000 in
theorem gX3_pass_X3_letPass : GoodIn wsX3_pass (wsV RX3 79 RX3 yX3_letPass wsX3_letPass) := goodIn_app (goodIn_of _ (by decide +kernel)) ggX3_pass_X3_letPass
set_option maxRecDepth 20000 in
theorem ggX3_pass_X3_recorded : GoodIn wsX3_pass wsX3_recorded := goodIn_r _ [72, 1, 73, 74, 37, 75, 40, 41, 42, 76, 77, 78, 6, 79, 10, 9, 80, 81, 82, 83, 84, 85, 86, 87, 88, 89, 90] (by decide +kernel) (by decide +kernel)
set_option maxRecDepth 20000 in
theorem gX3_pass_X3_recorded : GoodIn wsX3_pass (wsV RX3 55 RX3 yX3_recorded wsX3_recorded) := goodIn_app (goodIn_of _ (by decide +kernel)) ggX3_pass_X3_recorded
theorem dX3_pass_0 : decode cX3_pass 0 = .ok (.aload_n 0, 1) := by decide +kernel
theorem dX3_pass_1 : decode cX3_pass 1 = .ok (.getfield 25, 3) := by decide +kernel
theorem dX3_pass_4 : decode cX3_pass 4 = .ok (.aload_n 0, 1) := by decide +kernel
theorem dX3_pass_5 : decode cX3_pass 5 = .ok (.getfield 12, 3) := by decide +kernel
theorem dX3_pass_8 : decode cX3_pass 8 = .ok (.invokevirtual 47, 3) := by decide +kernel
theorem dX3_pass_11 : decode cX3_pass 11 = .ok (.aload_n 0, 1) := by decide +kernel
theorem dX3_pass_12 : decode cX3_pass 12 = .ok (.aload_n 0, 1) := by decide +kernel
theorem dX3_pass_13 : decode cX3_pass 13 = .ok (.iload_n 1, 1) := by decide +kernel
theorem dX3_pass_14 : decode cX3_pass 14 = .ok (.invokevirtual 79, 3) := by decide +kernel
theorem dX3_pass_17 : decode cX3_pass 17 = .ok (.invokevirtual 55, 3) := by decide +kernel
theorem dX3_pass_20 : decode cX3_pass 20 = .ok (.ireturn, 1) := by decide +kernel
set_option maxRecDepth 20000 in
theorem ggX3_call_X0_prepare : GoodIn wsX3_call wsX0_prepare := goodIn_r _ [7, 8, 9, 10, 11, 12, 13, 14, 15, 16, 17, 18, 19, 20, 21, 22, 23, 24, 25, 26, 27, 28, 29, 30, 31, 32, 33, 66, 67, 68, 69, 70, 71, 72, 73, 74, 75, 76, 77, 78, 79, 80, 81, 82] (by decide +kernel) (by decide +kernel)
set_option maxRecDepth 20000 in
theorem gX3_call_X0_prepare : GoodIn wsX3_call (wsV RX3 47 RX0 yX0_prepare wsX0_prepare) := goodIn_app (goodIn_of _ (by decide +kernel)) ggX3_call_X0_prepare
set_option maxRecDepth 20000 in
theorem ggX3_call_X3_callCourier : GoodIn wsX3_call wsX3_callCourier := goodIn_r _ [38, 2, 39, 40, 41, 37, 42, 43, 44, 45, 14, 46, 20, 30, 31, 33, 58, 59, 60, 61, 62, 63, 64, 65, 69, 70, 71, 72, 73, 74, 75, 76, 77, 78, 79, 80, 81, 82] (by decide +kernel) (by decide +kernel)
set_option maxRecDepth 20000 in
theorem gX3_call_X3_callCourier : GoodIn wsX3_call (wsV RX3 82 RX3 yX3_callCourier wsX3_callCourier) := goodIn_app (goodIn_of _ (by decide +kernel)) ggX3_call_X3_callCourier
set_option maxRecDepth 20000 in
theorem ggX3_call_X3_recorded : GoodIn wsX3_call wsX3_recorded := goodIn_r _ [50, 1, 51, 52, 37, 53, 40, 41, 42, 54, 55, 56, 6, 57, 10, 9, 58, 59, 60, 61, 62, 63, 64, 65, 66, 67, 68] (by decide +kernel) (by decide +kernel)
set_option maxRecDepth 20000 in
theorem gX3_call_X3_recorded : GoodIn wsX3_call (wsV RX3 55 RX3 yX3_recorded wsX3_recorded) := goodIn_app (goodIn_of _ (by decide +kernel)) ggX3_call_X3_recorded
theorem dX3_call_0 : decode cX3_call 0 = .ok (.aload_n 0, 1) := by decide +kernel
theorem dX3_call_1 : decode cX3_call 1 = .ok (.getfield 25, 3) := by decide +kernel
theorem dX3_call_4 : decode cX3_call 4 = .ok (.aload_n 0, 1) := by decide +kernel
theorem dX3_call_5 : decode cX3_call 5 = .ok (.getfield 12, 3) := by decide +kernel
theorem dX3_call_8 : decode cX3_call 8 = .ok (.invokevirtual 47, 3) := by decide +kernel
theorem dX3_call_11 : decode cX3_call 11 = .ok (.aload_n 0, 1) := by decide +kernel
theorem dX3_call_12 : decode cX3_call 12 = .ok (.aload_n 0, 1) := by decide +kernel
theorem dX3_call_13 : decode cX3_call 13 = .ok (.iload_n 1, 1) := by decide +kernel
theorem dX3_call_14 : decode cX3_call 14 = .ok (.invokevirtual 82, 3) := by decide +kernel
theorem dX3_call_17 : decode cX3_call 17 = .ok (.invokevirtual 55, 3) := by decide +kernel
theorem dX3_call_20 : decode cX3_call 20 = .ok (.ireturn, 1) := by decide +kernel
theorem dX3_day_0 : decode cX3_day 0 = .ok (.aload_n 0, 1) := by decide +kernel
theorem dX3_day_1 : decode cX3_day 1 = .ok (.getfield 12, 3) := by decide +kernel
theorem dX3_day_4 : decode cX3_day 4 = .ok (.getfield 85, 3) := by decide +kernel
theorem dX3_day_7 : decode cX3_day 7 = .ok (.ireturn, 1) := by decide +kernel
set_option maxRecDepth 20000 in
theorem ggX3_parcel_X1_placeWith : GoodIn wsX3_parcel wsX1_placeWith := goodIn_r _ [9, 10, 11, 12, 13, 14, 15, 16, 17, 18, 19, 20, 21, 22, 23, 24, 25, 46, 47, 48, 49, 50, 51, 52, 53, 54, 55, 56, 57, 58, 59] (by decide +kernel) (by decide +kernel)
set_option maxRecDepth 20000 in
theorem gX3_parcel_X1_placeWith : GoodIn wsX3_parcel (wsV RX3 88 RX1 yX1_placeWith wsX1_placeWith) := goodIn_app (goodIn_of _ (by decide +kernel)) ggX3_parcel_X1_placeWith
