theorem dX4_isTaken_3 : decode cX4_isTaken 3 = .ok (.invokevirtual 58, 3) := by decide +kernel
theorem dX4_isTaken_6 : decode cX4_isTaken 6 = .ok (.ifCond .le 7, 3) := by decide +kernel
theorem dX4_isTaken_9 : decode cX4_isTaken 9 = .ok (.iconst 1, 1) := by decide +kernel
theorem dX4_isTaken_10 : decode cX4_isTaken 10 = .ok (.goto 4, 3) := by decide +kernel
theorem dX4_isTaken_13 : decode cX4_isTaken 13 = .ok (.iconst 0, 1) := by decide +kernel
theorem dX4_isTaken_14 : decode cX4_isTaken 14 = .ok (.ireturn, 1) := by decide +kernel
theorem dX4_weekday_0 : decode cX4_weekday 0 = .ok (.iload_n 0, 1) := by decide +kernel
theorem dX4_weekday_1 : decode cX4_weekday 1 = .ok (.bipush 7, 2) := by decide +kernel
theorem dX4_weekday_3 : decode cX4_weekday 3 = .ok (.irem, 1) := by decide +kernel
theorem dX4_weekday_4 : decode cX4_weekday 4 = .ok (.iconst 1, 1) := by decide +kernel
theorem dX4_weekday_5 : decode cX4_weekday 5 = .ok (.iadd, 1) := by decide +kernel
theorem dX4_weekday_6 : decode cX4_weekday 6 = .ok (.ireturn, 1) := by decide +kernel
theorem dX4_codeBy_0 : decode cX4_codeBy 0 = .ok (.iconst 3, 1) := by decide +kernel
theorem dX4_codeBy_1 : decode cX4_codeBy 1 = .ok (.iload_n 0, 1) := by decide +kernel
theorem dX4_codeBy_2 : decode cX4_codeBy 2 = .ok (.imul, 1) := by decide +kernel
theorem dX4_codeBy_3 : decode cX4_codeBy 3 = .ok (.iload_n 1, 1) := by decide +kernel
theorem dX4_codeBy_4 : decode cX4_codeBy 4 = .ok (.bipush 8, 2) := by decide +kernel
theorem dX4_codeBy_6 : decode cX4_codeBy 6 = .ok (.idiv, 1) := by decide +kernel
theorem dX4_codeBy_7 : decode cX4_codeBy 7 = .ok (.iadd, 1) := by decide +kernel
theorem dX4_codeBy_8 : decode cX4_codeBy 8 = .ok (.bipush 7, 2) := by decide +kernel
theorem dX4_codeBy_10 : decode cX4_codeBy 10 = .ok (.iload_n 1, 1) := by decide +kernel
theorem dX4_codeBy_11 : decode cX4_codeBy 11 = .ok (.bipush 8, 2) := by decide +kernel
theorem dX4_codeBy_13 : decode cX4_codeBy 13 = .ok (.irem, 1) := by decide +kernel
theorem dX4_codeBy_14 : decode cX4_codeBy 14 = .ok (.imul, 1) := by decide +kernel
theorem dX4_codeBy_15 : decode cX4_codeBy 15 = .ok (.iadd, 1) := by decide +kernel
theorem dX4_codeBy_16 : decode cX4_codeBy 16 = .ok (.istore_n 2, 1) := by decide +kernel
theorem dX4_codeBy_17 : decode cX4_codeBy 17 = .ok (.sipush 1000, 3) := by decide +kernel
theorem dX4_codeBy_20 : decode cX4_codeBy 20 = .ok (.iload_n 0, 1) := by decide +kernel
theorem dX4_codeBy_21 : decode cX4_codeBy 21 = .ok (.imul, 1) := by decide +kernel
theorem dX4_codeBy_22 : decode cX4_codeBy 22 = .ok (.bipush 100, 2) := by decide +kernel
theorem dX4_codeBy_24 : decode cX4_codeBy 24 = .ok (.iload_n 1, 1) := by decide +kernel
theorem dX4_codeBy_25 : decode cX4_codeBy 25 = .ok (.bipush 8, 2) := by decide +kernel
theorem dX4_codeBy_27 : decode cX4_codeBy 27 = .ok (.idiv, 1) := by decide +kernel
theorem dX4_codeBy_28 : decode cX4_codeBy 28 = .ok (.imul, 1) := by decide +kernel
theorem dX4_codeBy_29 : decode cX4_codeBy 29 = .ok (.iadd, 1) := by decide +kernel
theorem dX4_codeBy_30 : decode cX4_codeBy 30 = .ok (.bipush 10, 2) := by decide +kernel
theorem dX4_codeBy_32 : decode cX4_codeBy 32 = .ok (.iload_n 1, 1) := by decide +kernel
theorem dX4_codeBy_33 : decode cX4_codeBy 33 = .ok (.bipush 8, 2) := by decide +kernel
theorem dX4_codeBy_35 : decode cX4_codeBy 35 = .ok (.irem, 1) := by decide +kernel
theorem dX4_codeBy_36 : decode cX4_codeBy 36 = .ok (.imul, 1) := by decide +kernel
theorem dX4_codeBy_37 : decode cX4_codeBy 37 = .ok (.iadd, 1) := by decide +kernel
theorem dX4_codeBy_38 : decode cX4_codeBy 38 = .ok (.bipush 10, 2) := by decide +kernel
theorem dX4_codeBy_40 : decode cX4_codeBy 40 = .ok (.iload_n 2, 1) := by decide +kernel
theorem dX4_codeBy_41 : decode cX4_codeBy 41 = .ok (.bipush 10, 2) := by decide +kernel
theorem dX4_codeBy_43 : decode cX4_codeBy 43 = .ok (.irem, 1) := by decide +kernel
theorem dX4_codeBy_44 : decode cX4_codeBy 44 = .ok (.isub, 1) := by decide +kernel
theorem dX4_codeBy_45 : decode cX4_codeBy 45 = .ok (.bipush 10, 2) := by decide +kernel
theorem dX4_codeBy_47 : decode cX4_codeBy 47 = .ok (.irem, 1) := by decide +kernel
theorem dX4_codeBy_48 : decode cX4_codeBy 48 = .ok (.iadd, 1) := by decide +kernel
theorem dX4_codeBy_49 : decode cX4_codeBy 49 = .ok (.ireturn, 1) := by decide +kernel
set_option maxRecDepth 20000 in
theorem ggX4_indexOf_X4_in : GoodIn wsX4_indexOf wsX4_in := goodIn_r _ [4] (by decide +kernel) (by decide +kernel)
set_option maxRecDepth 20000 in
theorem gX4_indexOf_X4_in : GoodIn wsX4_indexOf (va_wsS RX4 50 yX4_in wsX4_in) := goodIn_app (goodIn_of _ (by decide +kernel)) ggX4_indexOf_X4_in
set_option maxRecDepth 20000 in
theorem ggX4_indexOf_X4_codeBy : GoodIn wsX4_indexOf wsX4_codeBy := goodIn_r _ [7] (by decide +kernel) (by decide +kernel)
set_option maxRecDepth 20000 in
theorem gX4_indexOf_X4_codeBy : GoodIn wsX4_indexOf (va_wsS RX4 62 yX4_codeBy wsX4_codeBy) := goodIn_app (goodIn_of _ (by decide +kernel)) ggX4_indexOf_X4_codeBy
theorem dX4_indexOf_0 : decode cX4_indexOf 0 = .ok (.iload_n 0, 1) := by decide +kernel
theorem dX4_indexOf_1 : decode cX4_indexOf 1 = .ok (.sipush 1000, 3) := by decide +kernel
theorem dX4_indexOf_4 : decode cX4_indexOf 4 = .ok (.idiv, 1) := by decide +kernel
theorem dX4_indexOf_5 : decode cX4_indexOf 5 = .ok (.istore_n 1, 1) := by decide +kernel
theorem dX4_indexOf_6 : decode cX4_indexOf 6 = .ok (.iload_n 0, 1) := by decide +kernel
theorem dX4_indexOf_7 : decode cX4_indexOf 7 = .ok (.bipush 100, 2) := by decide +kernel
theorem dX4_indexOf_9 : decode cX4_indexOf 9 = .ok (.idiv, 1) := by decide +kernel
theorem dX4_indexOf_10 : decode cX4_indexOf 10 = .ok (.bipush 10, 2) := by decide +kernel
theorem dX4_indexOf_12 : decode cX4_indexOf 12 = .ok (.irem, 1) := by decide +kernel
theorem dX4_indexOf_13 : decode cX4_indexOf 13 = .ok (.istore_n 2, 1) := by decide +kernel
theorem dX4_indexOf_14 : decode cX4_indexOf 14 = .ok (.iload_n 0, 1) := by decide +kernel
theorem dX4_indexOf_15 : decode cX4_indexOf 15 = .ok (.bipush 10, 2) := by decide +kernel
theorem dX4_indexOf_17 : decode cX4_indexOf 17 = .ok (.idiv, 1) := by decide +kernel
theorem dX4_indexOf_18 : decode cX4_indexOf 18 = .ok (.bipush 10, 2) := by decide +kernel
theorem dX4_indexOf_20 : decode cX4_indexOf 20 = .ok (.irem, 1) := by decide +kernel
theorem dX4_indexOf_21 : decode cX4_indexOf 21 = .ok (.istore_n 3, 1) := by decide +kernel
theorem dX4_indexOf_22 : decode cX4_indexOf 22 = .ok (.iload_n 0, 1) := by decide +kernel
theorem dX4_indexOf_23 : decode cX4_indexOf 23 = .ok (.iconst 0, 1) := by decide +kernel
theorem dX4_indexOf_24 : decode cX4_indexOf 24 = .ok (.sipush 9999, 3) := by decide +kernel
theorem dX4_indexOf_27 : decode cX4_indexOf 27 = .ok (.invokestatic 50, 3) := by decide +kernel
theorem dX4_indexOf_30 : decode cX4_indexOf 30 = .ok (.ifCond .eq 29, 3) := by decide +kernel
theorem dX4_indexOf_33 : decode cX4_indexOf 33 = .ok (.iload_n 1, 1) := by decide +kernel
theorem dX4_indexOf_34 : decode cX4_indexOf 34 = .ok (.iconst 1, 1) := by decide +kernel
theorem dX4_indexOf_35 : decode cX4_indexOf 35 = .ok (.bipush 7, 2) := by decide +kernel
theorem dX4_indexOf_37 : decode cX4_indexOf 37 = .ok (.invokestatic 50, 3) := by decide +kernel
theorem dX4_indexOf_40 : decode cX4_indexOf 40 = .ok (.ifCond .eq 19, 3) := by decide +kernel
theorem dX4_indexOf_43 : decode cX4_indexOf 43 = .ok (.iload_n 2, 1) := by decide +kernel
theorem dX4_indexOf_44 : decode cX4_indexOf 44 = .ok (.bipush 6, 2) := by decide +kernel
theorem dX4_indexOf_46 : decode cX4_indexOf 46 = .ok (.if_icmp .ge 13, 3) := by decide +kernel
theorem dX4_indexOf_49 : decode cX4_indexOf 49 = .ok (.iload_n 3, 1) := by decide +kernel
theorem dX4_indexOf_50 : decode cX4_indexOf 50 = .ok (.bipush 8, 2) := by decide +kernel
theorem dX4_indexOf_52 : decode cX4_indexOf 52 = .ok (.if_icmp .ge 7, 3) := by decide +kernel
theorem dX4_indexOf_55 : decode cX4_indexOf 55 = .ok (.iconst 1, 1) := by decide +kernel
theorem dX4_indexOf_56 : decode cX4_indexOf 56 = .ok (.goto 4, 3) := by decide +kernel
theorem dX4_indexOf_59 : decode cX4_indexOf 59 = .ok (.iconst 0, 1) := by decide +kernel
theorem dX4_indexOf_60 : decode cX4_indexOf 60 = .ok (.istore 4, 2) := by decide +kernel
theorem dX4_indexOf_62 : decode cX4_indexOf 62 = .ok (.iload 4, 2) := by decide +kernel
theorem dX4_indexOf_64 : decode cX4_indexOf 64 = .ok (.ifCond .eq 33, 3) := by decide +kernel
theorem dX4_indexOf_67 : decode cX4_indexOf 67 = .ok (.iload_n 1, 1) := by decide +kernel
theorem dX4_indexOf_68 : decode cX4_indexOf 68 = .ok (.bipush 8, 2) := by decide +kernel
theorem dX4_indexOf_70 : decode cX4_indexOf 70 = .ok (.iload_n 2, 1) := by decide +kernel
theorem dX4_indexOf_71 : decode cX4_indexOf 71 = .ok (.imul, 1) := by decide +kernel
theorem dX4_indexOf_72 : decode cX4_indexOf 72 = .ok (.iload_n 3, 1) := by decide +kernel
theorem dX4_indexOf_73 : decode cX4_indexOf 73 = .ok (.iadd, 1) := by decide +kernel
theorem dX4_indexOf_74 : decode cX4_indexOf 74 = .ok (.invokestatic 62, 3) := by decide +kernel
theorem dX4_indexOf_77 : decode cX4_indexOf 77 = .ok (.iload_n 0, 1) := by decide +kernel
theorem dX4_indexOf_78 : decode cX4_indexOf 78 = .ok (.if_icmp .ne 19, 3) := by decide +kernel
theorem dX4_indexOf_81 : decode cX4_indexOf 81 = .ok (.bipush 48, 2) := by decide +kernel
theorem dX4_indexOf_83 : decode cX4_indexOf 83 = .ok (.iload_n 1, 1) := by decide +kernel
theorem dX4_indexOf_84 : decode cX4_indexOf 84 = .ok (.iconst 1, 1) := by decide +kernel
theorem dX4_indexOf_85 : decode cX4_indexOf 85 = .ok (.isub, 1) := by decide +kernel
theorem dX4_indexOf_86 : decode cX4_indexOf 86 = .ok (.imul, 1) := by decide +kernel
theorem dX4_indexOf_87 : decode cX4_indexOf 87 = .ok (.bipush 8, 2) := by decide +kernel
theorem dX4_indexOf_89 : decode cX4_indexOf 89 = .ok (.iload_n 2, 1) := by decide +kernel
theorem dX4_indexOf_90 : decode cX4_indexOf 90 = .ok (.imul, 1) := by decide +kernel
theorem dX4_indexOf_91 : decode cX4_indexOf 91 = .ok (.iadd, 1) := by decide +kernel
theorem dX4_indexOf_92 : decode cX4_indexOf 92 = .ok (.iload_n 3, 1) := by decide +kernel
theorem dX4_indexOf_93 : decode cX4_indexOf 93 = .ok (.iadd, 1) := by decide +kernel
theorem dX4_indexOf_94 : decode cX4_indexOf 94 = .ok (.goto 5, 3) := by decide +kernel
theorem dX4_indexOf_97 : decode cX4_indexOf 97 = .ok (.bipush (-6), 2) := by decide +kernel
theorem dX4_indexOf_99 : decode cX4_indexOf 99 = .ok (.ireturn, 1) := by decide +kernel
set_option maxRecDepth 20000 in
theorem ggX4_codeOn_X4_at : GoodIn wsX4_codeOn wsX4_at := goodIn_r _ [5, 6, 10, 11, 12, 13, 14, 15, 16, 17, 18, 19, 20, 21, 22, 23] (by decide +kernel) (by decide +kernel)
set_option maxRecDepth 20000 in
theorem gX4_codeOn_X4_at : GoodIn wsX4_codeOn (wsV RX4 58 RX4 yX4_at wsX4_at) := goodIn_app (goodIn_of _ (by decide +kernel)) ggX4_codeOn_X4_at
set_option maxRecDepth 20000 in
theorem ggX4_codeOn_X4_codeBy : GoodIn wsX4_codeOn wsX4_codeBy := goodIn_r _ [9] (by decide +kernel) (by decide +kernel)
set_option maxRecDepth 20000 in
theorem gX4_codeOn_X4_codeBy : GoodIn wsX4_codeOn (va_wsS RX4 62 yX4_codeBy wsX4_codeBy) := goodIn_app (goodIn_of _ (by decide +kernel)) ggX4_codeOn_X4_codeBy
theorem dX4_codeOn_0 : decode cX4_codeOn 0 = .ok (.aload_n 0, 1) := by decide +kernel
theorem dX4_codeOn_1 : decode cX4_codeOn 1 = .ok (.iload_n 1, 1) := by decide +kernel
theorem dX4_codeOn_2 : decode cX4_codeOn 2 = .ok (.iconst 3, 1) := by decide +kernel
theorem dX4_codeOn_3 : decode cX4_codeOn 3 = .ok (.invokevirtual 58, 3) := by decide +kernel
theorem dX4_codeOn_6 : decode cX4_codeOn 6 = .ok (.iload_n 1, 1) := by decide +kernel
theorem dX4_codeOn_7 : decode cX4_codeOn 7 = .ok (.invokestatic 62, 3) := by decide +kernel
theorem dX4_codeOn_10 : decode cX4_codeOn 10 = .ok (.ireturn, 1) := by decide +kernel
set_option maxRecDepth 20000 in
theorem ggX4_placeBy_X4_indexOf : GoodIn wsX4_placeBy wsX4_indexOf := goodIn_r _ [4, 5, 6, 3, 7, 8, 9, 10] (by decide +kernel) (by decide +kernel)
set_option maxRecDepth 20000 in
theorem gX4_placeBy_X4_indexOf : GoodIn wsX4_placeBy (va_wsS RX4 65 yX4_indexOf wsX4_indexOf) := goodIn_app (goodIn_of _ (by decide +kernel)) ggX4_placeBy_X4_indexOf
set_option maxRecDepth 20000 in
theorem ggX4_placeBy_X4_isTaken : GoodIn wsX4_placeBy wsX4_isTaken := goodIn_r _ [14, 15, 16, 17, 3, 18, 19, 20, 21, 22, 23, 24, 25, 26, 27, 28, 29, 30, 31, 32, 33] (by decide +kernel) (by decide +kernel)
set_option maxRecDepth 20000 in
theorem gX4_placeBy_X4_isTaken : GoodIn wsX4_placeBy (wsV RX4 69 RX4 yX4_isTaken wsX4_isTaken) := goodIn_app (goodIn_of _ (by decide +kernel)) ggX4_placeBy_X4_isTaken
set_option maxRecDepth 20000 in
theorem ggX4_placeBy_X4_at : GoodIn wsX4_placeBy wsX4_at := goodIn_r _ [18, 19, 20, 21, 22, 23, 24, 25, 26, 27, 28, 29, 30, 31, 32, 33] (by decide +kernel) (by decide +kernel)
set_option maxRecDepth 20000 in
theorem gX4_placeBy_X4_at : GoodIn wsX4_placeBy (wsV RX4 58 RX4 yX4_at wsX4_at) := goodIn_app (goodIn_of _ (by decide +kernel)) ggX4_placeBy_X4_at
theorem dX4_placeBy_0 : decode cX4_placeBy 0 = .ok (.iload_n 1, 1) := by decide +kernel
theorem dX4_placeBy_1 : decode cX4_placeBy 1 = .ok (.invokestatic 65, 3) := by decide +kernel
theorem dX4_placeBy_4 : decode cX4_placeBy 4 = .ok (.istore_n 2, 1) := by decide +kernel
theorem dX4_placeBy_5 : decode cX4_placeBy 5 = .ok (.iload_n 2, 1) := by decide +kernel
theorem dX4_placeBy_6 : decode cX4_placeBy 6 = .ok (.bipush (-6), 2) := by decide +kernel
theorem dX4_placeBy_8 : decode cX4_placeBy 8 = .ok (.if_icmp .ne 8, 3) := by decide +kernel
theorem dX4_placeBy_11 : decode cX4_placeBy 11 = .ok (.bipush (-6), 2) := by decide +kernel
theorem dX4_placeBy_13 : decode cX4_placeBy 13 = .ok (.goto 7, 3) := by decide +kernel
theorem dX4_placeBy_16 : decode cX4_placeBy 16 = .ok (.iload_n 2, 1) := by decide +kernel
theorem dX4_placeBy_17 : decode cX4_placeBy 17 = .ok (.bipush 48, 2) := by decide +kernel
theorem dX4_placeBy_19 : decode cX4_placeBy 19 = .ok (.irem, 1) := by decide +kernel
theorem dX4_placeBy_20 : decode cX4_placeBy 20 = .ok (.istore_n 3, 1) := by decide +kernel
theorem dX4_placeBy_21 : decode cX4_placeBy 21 = .ok (.iload_n 3, 1) := by decide +kernel
theorem dX4_placeBy_22 : decode cX4_placeBy 22 = .ok (.bipush (-6), 2) := by decide +kernel
theorem dX4_placeBy_24 : decode cX4_placeBy 24 = .ok (.if_icmp .eq 30, 3) := by decide +kernel
theorem dX4_placeBy_27 : decode cX4_placeBy 27 = .ok (.aload_n 0, 1) := by decide +kernel
theorem dX4_placeBy_28 : decode cX4_placeBy 28 = .ok (.iload_n 3, 1) := by decide +kernel
theorem dX4_placeBy_29 : decode cX4_placeBy 29 = .ok (.invokevirtual 69, 3) := by decide +kernel
theorem dX4_placeBy_32 : decode cX4_placeBy 32 = .ok (.ifCond .eq 22, 3) := by decide +kernel
theorem dX4_placeBy_35 : decode cX4_placeBy 35 = .ok (.aload_n 0, 1) := by decide +kernel
theorem dX4_placeBy_36 : decode cX4_placeBy 36 = .ok (.iload_n 3, 1) := by decide +kernel
theorem dX4_placeBy_37 : decode cX4_placeBy 37 = .ok (.iconst 3, 1) := by decide +kernel
theorem dX4_placeBy_38 : decode cX4_placeBy 38 = .ok (.invokevirtual 58, 3) := by decide +kernel
theorem dX4_placeBy_41 : decode cX4_placeBy 41 = .ok (.iload_n 2, 1) := by decide +kernel
theorem dX4_placeBy_42 : decode cX4_placeBy 42 = .ok (.bipush 48, 2) := by decide +kernel
theorem dX4_placeBy_44 : decode cX4_placeBy 44 = .ok (.idiv, 1) := by decide +kernel
theorem dX4_placeBy_45 : decode cX4_placeBy 45 = .ok (.iconst 1, 1) := by decide +kernel
theorem dX4_placeBy_46 : decode cX4_placeBy 46 = .ok (.iadd, 1) := by decide +kernel
theorem dX4_placeBy_47 : decode cX4_placeBy 47 = .ok (.if_icmp .ne 7, 3) := by decide +kernel
theorem dX4_placeBy_50 : decode cX4_placeBy 50 = .ok (.iload_n 3, 1) := by decide +kernel
theorem dX4_placeBy_51 : decode cX4_placeBy 51 = .ok (.goto 5, 3) := by decide +kernel
theorem dX4_placeBy_54 : decode cX4_placeBy 54 = .ok (.bipush (-6), 2) := by decide +kernel
theorem dX4_placeBy_56 : decode cX4_placeBy 56 = .ok (.ireturn, 1) := by decide +kernel
theorem dX4_restsOf_0 : decode cX4_restsOf 0 = .ok (.iload_n 1, 1) := by decide +kernel
theorem dX4_restsOf_1 : decode cX4_restsOf 1 = .ok (.bipush (-6), 2) := by decide +kernel
theorem dX4_restsOf_3 : decode cX4_restsOf 3 = .ok (.if_icmp .eq 18, 3) := by decide +kernel
theorem dX4_restsOf_6 : decode cX4_restsOf 6 = .ok (.aload_n 0, 1) := by decide +kernel
theorem dX4_restsOf_7 : decode cX4_restsOf 7 = .ok (.getfield 7, 3) := by decide +kernel
theorem dX4_restsOf_10 : decode cX4_restsOf 10 = .ok (.sipush 204, 3) := by decide +kernel
theorem dX4_restsOf_13 : decode cX4_restsOf 13 = .ok (.iload_n 1, 1) := by decide +kernel
theorem dX4_restsOf_14 : decode cX4_restsOf 14 = .ok (.iadd, 1) := by decide +kernel
theorem dX4_restsOf_15 : decode cX4_restsOf 15 = .ok (.iaload, 1) := by decide +kernel
theorem dX4_restsOf_16 : decode cX4_restsOf 16 = .ok (.bipush (-6), 2) := by decide +kernel
theorem dX4_restsOf_18 : decode cX4_restsOf 18 = .ok (.if_icmp .ne 8, 3) := by decide +kernel
theorem dX4_restsOf_21 : decode cX4_restsOf 21 = .ok (.bipush (-6), 2) := by decide +kernel
theorem dX4_restsOf_23 : decode cX4_restsOf 23 = .ok (.goto 20, 3) := by decide +kernel
theorem dX4_restsOf_26 : decode cX4_restsOf 26 = .ok (.aload_n 0, 1) := by decide +kernel
theorem dX4_restsOf_27 : decode cX4_restsOf 27 = .ok (.getfield 7, 3) := by decide +kernel
theorem dX4_restsOf_30 : decode cX4_restsOf 30 = .ok (.sipush 204, 3) := by decide +kernel
theorem dX4_restsOf_33 : decode cX4_restsOf 33 = .ok (.iload_n 1, 1) := by decide +kernel
theorem dX4_restsOf_34 : decode cX4_restsOf 34 = .ok (.iadd, 1) := by decide +kernel
theorem dX4_restsOf_35 : decode cX4_restsOf 35 = .ok (.iaload, 1) := by decide +kernel
theorem dX4_restsOf_36 : decode cX4_restsOf 36 = .ok (.aload_n 0, 1) := by decide +kernel
theorem dX4_restsOf_37 : decode cX4_restsOf 37 = .ok (.getfield 7, 3) := by decide +kernel
theorem dX4_restsOf_40 : decode cX4_restsOf 40 = .ok (.iconst 0, 1) := by decide +kernel
theorem dX4_restsOf_41 : decode cX4_restsOf 41 = .ok (.iaload, 1) := by decide +kernel
theorem dX4_restsOf_42 : decode cX4_restsOf 42 = .ok (.iadd, 1) := by decide +kernel
theorem dX4_restsOf_43 : decode cX4_restsOf 43 = .ok (.istore_n 2, 1) := by decide +kernel
theorem dX4_restsOf_44 : decode cX4_restsOf 44 = .ok (.iload_n 2, 1) := by decide +kernel
theorem dX4_restsOf_45 : decode cX4_restsOf 45 = .ok (.aload_n 0, 1) := by decide +kernel
theorem dX4_restsOf_46 : decode cX4_restsOf 46 = .ok (.getfield 7, 3) := by decide +kernel
theorem dX4_restsOf_49 : decode cX4_restsOf 49 = .ok (.iconst 5, 1) := by decide +kernel
theorem dX4_restsOf_50 : decode cX4_restsOf 50 = .ok (.iaload, 1) := by decide +kernel
theorem dX4_restsOf_51 : decode cX4_restsOf 51 = .ok (.if_icmp .le 7, 3) := by decide +kernel
theorem dX4_restsOf_54 : decode cX4_restsOf 54 = .ok (.iload_n 2, 1) := by decide +kernel
theorem dX4_restsOf_55 : decode cX4_restsOf 55 = .ok (.goto 5, 3) := by decide +kernel
theorem dX4_restsOf_58 : decode cX4_restsOf 58 = .ok (.bipush (-6), 2) := by decide +kernel
theorem dX4_restsOf_60 : decode cX4_restsOf 60 = .ok (.ireturn, 1) := by decide +kernel
set_option maxRecDepth 20000 in
theorem ggX4_rests_X4_weekday : GoodIn wsX4_rests wsX4_weekday := goodIn_r _ [5] (by decide +kernel) (by decide +kernel)
set_option maxRecDepth 20000 in
theorem gX4_rests_X4_weekday : GoodIn wsX4_rests (va_wsS RX4 73 yX4_weekday wsX4_weekday) := goodIn_app (goodIn_of _ (by decide +kernel)) ggX4_rests_X4_weekday
set_option maxRecDepth 20000 in
theorem ggX4_rests_X4_restsOf : GoodIn wsX4_rests wsX4_restsOf := goodIn_r _ [9, 1, 10, 11, 12, 13, 14, 15, 16, 17, 18, 19, 20, 21, 22, 23] (by decide +kernel) (by decide +kernel)
set_option maxRecDepth 20000 in
theorem gX4_rests_X4_restsOf : GoodIn wsX4_rests (wsV RX4 76 RX4 yX4_restsOf wsX4_restsOf) := goodIn_app (goodIn_of _ (by decide +kernel)) ggX4_rests_X4_restsOf
theorem dX4_rests_0 : decode cX4_rests 0 = .ok (.aload_n 0, 1) := by decide +kernel
theorem dX4_rests_1 : decode cX4_rests 1 = .ok (.bipush 48, 2) := by decide +kernel
theorem dX4_rests_3 : decode cX4_rests 3 = .ok (.aload_n 0, 1) := by decide +kernel
theorem dX4_rests_4 : decode cX4_rests 4 = .ok (.getfield 7, 3) := by decide +kernel
theorem dX4_rests_7 : decode cX4_rests 7 = .ok (.iconst 5, 1) := by decide +kernel
theorem dX4_rests_8 : decode cX4_rests 8 = .ok (.iaload, 1) := by decide +kernel
theorem dX4_rests_9 : decode cX4_rests 9 = .ok (.invokestatic 73, 3) := by decide +kernel
theorem dX4_rests_12 : decode cX4_rests 12 = .ok (.iconst 1, 1) := by decide +kernel
theorem dX4_rests_13 : decode cX4_rests 13 = .ok (.isub, 1) := by decide +kernel
theorem dX4_rests_14 : decode cX4_rests 14 = .ok (.imul, 1) := by decide +kernel
theorem dX4_rests_15 : decode cX4_rests 15 = .ok (.iload_n 1, 1) := by decide +kernel
theorem dX4_rests_16 : decode cX4_rests 16 = .ok (.iadd, 1) := by decide +kernel
theorem dX4_rests_17 : decode cX4_rests 17 = .ok (.invokevirtual 76, 3) := by decide +kernel
theorem dX4_rests_20 : decode cX4_rests 20 = .ok (.bipush (-6), 2) := by decide +kernel
theorem dX4_rests_22 : decode cX4_rests 22 = .ok (.if_icmp .eq 7, 3) := by decide +kernel
theorem dX4_rests_25 : decode cX4_rests 25 = .ok (.iconst 1, 1) := by decide +kernel
theorem dX4_rests_26 : decode cX4_rests 26 = .ok (.goto 4, 3) := by decide +kernel
theorem dX4_rests_29 : decode cX4_rests 29 = .ok (.iconst 0, 1) := by decide +kernel
theorem dX4_rests_30 : decode cX4_rests 30 = .ok (.ireturn, 1) := by decide +kernel
set_option maxRecDepth 20000 in
theorem ggX4_firstPlace_X4_isTaken : GoodIn wsX4_firstPlace wsX4_isTaken := goodIn_r _ [5, 6, 7, 8, 4, 9, 10, 22, 23, 24, 25, 26, 27, 28, 29, 30, 31, 32, 33, 34, 35] (by decide +kernel) (by decide +kernel)
set_option maxRecDepth 20000 in
theorem gX4_firstPlace_X4_isTaken : GoodIn wsX4_firstPlace (wsV RX4 69 RX4 yX4_isTaken wsX4_isTaken) := goodIn_app (goodIn_of _ (by decide +kernel)) ggX4_firstPlace_X4_isTaken
set_option maxRecDepth 20000 in
theorem ggX4_firstPlace_X4_rests : GoodIn wsX4_firstPlace wsX4_rests := goodIn_r _ [14, 10, 15, 16, 4, 17, 18, 19, 20, 21, 22, 23, 24, 25, 26, 27, 28, 29, 30, 31, 32, 33, 34, 35] (by decide +kernel) (by decide +kernel)
set_option maxRecDepth 20000 in
theorem gX4_firstPlace_X4_rests : GoodIn wsX4_firstPlace (wsV RX4 79 RX4 yX4_rests wsX4_rests) := goodIn_app (goodIn_of _ (by decide +kernel)) ggX4_firstPlace_X4_rests
theorem dX4_firstPlace_0 : decode cX4_firstPlace 0 = .ok (.bipush 8, 2) := by decide +kernel
theorem dX4_firstPlace_2 : decode cX4_firstPlace 2 = .ok (.iload_n 1, 1) := by decide +kernel
theorem dX4_firstPlace_3 : decode cX4_firstPlace 3 = .ok (.imul, 1) := by decide +kernel
theorem dX4_firstPlace_4 : decode cX4_firstPlace 4 = .ok (.istore_n 3, 1) := by decide +kernel
theorem dX4_firstPlace_5 : decode cX4_firstPlace 5 = .ok (.iload_n 3, 1) := by decide +kernel
theorem dX4_firstPlace_6 : decode cX4_firstPlace 6 = .ok (.bipush 8, 2) := by decide +kernel
theorem dX4_firstPlace_8 : decode cX4_firstPlace 8 = .ok (.iload_n 2, 1) := by decide +kernel
theorem dX4_firstPlace_9 : decode cX4_firstPlace 9 = .ok (.iconst 1, 1) := by decide +kernel
theorem dX4_firstPlace_10 : decode cX4_firstPlace 10 = .ok (.iadd, 1) := by decide +kernel
theorem dX4_firstPlace_11 : decode cX4_firstPlace 11 = .ok (.imul, 1) := by decide +kernel
theorem dX4_firstPlace_12 : decode cX4_firstPlace 12 = .ok (.if_icmp .ge 27, 3) := by decide +kernel
theorem dX4_firstPlace_15 : decode cX4_firstPlace 15 = .ok (.aload_n 0, 1) := by decide +kernel
theorem dX4_firstPlace_16 : decode cX4_firstPlace 16 = .ok (.iload_n 3, 1) := by decide +kernel
theorem dX4_firstPlace_17 : decode cX4_firstPlace 17 = .ok (.invokevirtual 69, 3) := by decide +kernel
theorem dX4_firstPlace_20 : decode cX4_firstPlace 20 = .ok (.ifCond .ne 13, 3) := by decide +kernel
theorem dX4_firstPlace_23 : decode cX4_firstPlace 23 = .ok (.aload_n 0, 1) := by decide +kernel
theorem dX4_firstPlace_24 : decode cX4_firstPlace 24 = .ok (.iload_n 3, 1) := by decide +kernel
theorem dX4_firstPlace_25 : decode cX4_firstPlace 25 = .ok (.invokevirtual 79, 3) := by decide +kernel
theorem dX4_firstPlace_28 : decode cX4_firstPlace 28 = .ok (.ifCond .ne 5, 3) := by decide +kernel
theorem dX4_firstPlace_31 : decode cX4_firstPlace 31 = .ok (.iload_n 3, 1) := by decide +kernel
theorem dX4_firstPlace_32 : decode cX4_firstPlace 32 = .ok (.ireturn, 1) := by decide +kernel
theorem dX4_firstPlace_33 : decode cX4_firstPlace 33 = .ok (.iinc 3 1, 3) := by decide +kernel
theorem dX4_firstPlace_36 : decode cX4_firstPlace 36 = .ok (.goto (-31), 3) := by decide +kernel
theorem dX4_firstPlace_39 : decode cX4_firstPlace 39 = .ok (.bipush (-6), 2) := by decide +kernel
theorem dX4_firstPlace_41 : decode cX4_firstPlace 41 = .ok (.ireturn, 1) := by decide +kernel
set_option maxRecDepth 20000 in
theorem ggX4_refusePlace_X4_isTaken : GoodIn wsX4_refusePlace wsX4_isTaken := goodIn_r _ [5, 6, 7, 8, 4, 9, 10, 17, 18, 19, 20, 21, 22, 23, 24, 25, 26, 27, 28, 29, 30] (by decide +kernel) (by decide +kernel)
set_option maxRecDepth 20000 in
theorem gX4_refusePlace_X4_isTaken : GoodIn wsX4_refusePlace (wsV RX4 69 RX4 yX4_isTaken wsX4_isTaken) := goodIn_app (goodIn_of _ (by decide +kernel)) ggX4_refusePlace_X4_isTaken
set_option maxRecDepth 20000 in
theorem ggX4_refusePlace_X4_refuseBy : GoodIn wsX4_refusePlace wsX4_refuseBy := goodIn_r _ [14, 15, 16, 17, 18, 19, 20, 21, 22, 23, 24, 25, 26, 27, 28, 29, 30] (by decide +kernel) (by decide +kernel)
set_option maxRecDepth 20000 in
theorem gX4_refusePlace_X4_refuseBy : GoodIn wsX4_refusePlace (wsV RX4 82 RX4 yX4_refuseBy wsX4_refuseBy) := goodIn_app (goodIn_of _ (by decide +kernel)) ggX4_refusePlace_X4_refuseBy
theorem dX4_refusePlace_0 : decode cX4_refusePlace 0 = .ok (.iconst 0, 1) := by decide +kernel
theorem dX4_refusePlace_1 : decode cX4_refusePlace 1 = .ok (.istore_n 3, 1) := by decide +kernel
theorem dX4_refusePlace_2 : decode cX4_refusePlace 2 = .ok (.bipush 8, 2) := by decide +kernel
theorem dX4_refusePlace_4 : decode cX4_refusePlace 4 = .ok (.iload_n 1, 1) := by decide +kernel
theorem dX4_refusePlace_5 : decode cX4_refusePlace 5 = .ok (.imul, 1) := by decide +kernel
theorem dX4_refusePlace_6 : decode cX4_refusePlace 6 = .ok (.istore 4, 2) := by decide +kernel
theorem dX4_refusePlace_8 : decode cX4_refusePlace 8 = .ok (.iload 4, 2) := by decide +kernel
theorem dX4_refusePlace_10 : decode cX4_refusePlace 10 = .ok (.bipush 8, 2) := by decide +kernel
theorem dX4_refusePlace_12 : decode cX4_refusePlace 12 = .ok (.iload_n 2, 1) := by decide +kernel
theorem dX4_refusePlace_13 : decode cX4_refusePlace 13 = .ok (.iconst 1, 1) := by decide +kernel
theorem dX4_refusePlace_14 : decode cX4_refusePlace 14 = .ok (.iadd, 1) := by decide +kernel
theorem dX4_refusePlace_15 : decode cX4_refusePlace 15 = .ok (.imul, 1) := by decide +kernel
theorem dX4_refusePlace_16 : decode cX4_refusePlace 16 = .ok (.if_icmp .ge 28, 3) := by decide +kernel
theorem dX4_refusePlace_19 : decode cX4_refusePlace 19 = .ok (.iload_n 3, 1) := by decide +kernel
theorem dX4_refusePlace_20 : decode cX4_refusePlace 20 = .ok (.ifCond .ne 12, 3) := by decide +kernel
theorem dX4_refusePlace_23 : decode cX4_refusePlace 23 = .ok (.aload_n 0, 1) := by decide +kernel
theorem dX4_refusePlace_24 : decode cX4_refusePlace 24 = .ok (.iload 4, 2) := by decide +kernel
theorem dX4_refusePlace_26 : decode cX4_refusePlace 26 = .ok (.invokevirtual 69, 3) := by decide +kernel
theorem dX4_refusePlace_29 : decode cX4_refusePlace 29 = .ok (.ifCond .ne 7, 3) := by decide +kernel
theorem dX4_refusePlace_32 : decode cX4_refusePlace 32 = .ok (.iconst 1, 1) := by decide +kernel
theorem dX4_refusePlace_33 : decode cX4_refusePlace 33 = .ok (.goto 4, 3) := by decide +kernel
theorem dX4_refusePlace_36 : decode cX4_refusePlace 36 = .ok (.iconst 0, 1) := by decide +kernel
theorem dX4_refusePlace_37 : decode cX4_refusePlace 37 = .ok (.istore_n 3, 1) := by decide +kernel
theorem dX4_refusePlace_38 : decode cX4_refusePlace 38 = .ok (.iinc 4 1, 3) := by decide +kernel
theorem dX4_refusePlace_41 : decode cX4_refusePlace 41 = .ok (.goto (-33), 3) := by decide +kernel
theorem dX4_refusePlace_44 : decode cX4_refusePlace 44 = .ok (.aload_n 0, 1) := by decide +kernel
theorem dX4_refusePlace_45 : decode cX4_refusePlace 45 = .ok (.iconst 1, 1) := by decide +kernel
theorem dX4_refusePlace_46 : decode cX4_refusePlace 46 = .ok (.iload_n 3, 1) := by decide +kernel
theorem dX4_refusePlace_47 : decode cX4_refusePlace 47 = .ok (.ifCond .eq 7, 3) := by decide +kernel
theorem dX4_refusePlace_50 : decode cX4_refusePlace 50 = .ok (.iconst 5, 1) := by decide +kernel
theorem dX4_refusePlace_51 : decode cX4_refusePlace 51 = .ok (.goto 5, 3) := by decide +kernel
theorem dX4_refusePlace_54 : decode cX4_refusePlace 54 = .ok (.bipush 6, 2) := by decide +kernel
theorem dX4_refusePlace_56 : decode cX4_refusePlace 56 = .ok (.bipush (-4), 2) := by decide +kernel
theorem dX4_refusePlace_58 : decode cX4_refusePlace 58 = .ok (.invokevirtual 82, 3) := by decide +kernel
theorem dX4_refusePlace_61 : decode cX4_refusePlace 61 = .ok (.ireturn, 1) := by decide +kernel
theorem dX4_refuseBy_0 : decode cX4_refuseBy 0 = .ok (.aload_n 0, 1) := by decide +kernel
theorem dX4_refuseBy_1 : decode cX4_refuseBy 1 = .ok (.iload_n 1, 1) := by decide +kernel
theorem dX4_refuseBy_2 : decode cX4_refuseBy 2 = .ok (.putfield 22, 3) := by decide +kernel
theorem dX4_refuseBy_5 : decode cX4_refuseBy 5 = .ok (.aload_n 0, 1) := by decide +kernel
theorem dX4_refuseBy_6 : decode cX4_refuseBy 6 = .ok (.iload_n 2, 1) := by decide +kernel
theorem dX4_refuseBy_7 : decode cX4_refuseBy 7 = .ok (.putfield 26, 3) := by decide +kernel
theorem dX4_refuseBy_10 : decode cX4_refuseBy 10 = .ok (.iload_n 3, 1) := by decide +kernel
theorem dX4_refuseBy_11 : decode cX4_refuseBy 11 = .ok (.ireturn, 1) := by decide +kernel
set_option maxRecDepth 20000 in
theorem ggX4_refuseCode_X4_indexOf : GoodIn wsX4_refuseCode wsX4_indexOf := goodIn_r _ [4, 5, 6, 3, 7, 8, 9, 10] (by decide +kernel) (by decide +kernel)
set_option maxRecDepth 20000 in
theorem gX4_refuseCode_X4_indexOf : GoodIn wsX4_refuseCode (va_wsS RX4 65 yX4_indexOf wsX4_indexOf) := goodIn_app (goodIn_of _ (by decide +kernel)) ggX4_refuseCode_X4_indexOf
set_option maxRecDepth 20000 in
theorem ggX4_refuseCode_X4_restsOf : GoodIn wsX4_refuseCode wsX4_restsOf := goodIn_r _ [14, 15, 22, 23, 24, 25, 26, 27, 28, 29, 30, 31, 32, 33, 34, 35] (by decide +kernel) (by decide +kernel)
set_option maxRecDepth 20000 in
theorem gX4_refuseCode_X4_restsOf : GoodIn wsX4_refuseCode (wsV RX4 76 RX4 yX4_restsOf wsX4_restsOf) := goodIn_app (goodIn_of _ (by decide +kernel)) ggX4_refuseCode_X4_restsOf
set_option maxRecDepth 20000 in
theorem ggX4_refuseCode_X4_refuseBy : GoodIn wsX4_refuseCode wsX4_refuseBy := goodIn_r _ [19, 20, 21, 22, 23, 24, 25, 26, 27, 28, 29, 30, 31, 32, 33, 34, 35] (by decide +kernel) (by decide +kernel)
set_option maxRecDepth 20000 in
theorem gX4_refuseCode_X4_refuseBy : GoodIn wsX4_refuseCode (wsV RX4 82 RX4 yX4_refuseBy wsX4_refuseBy) := goodIn_app (goodIn_of _ (by decide +kernel)) ggX4_refuseCode_X4_refuseBy
theorem dX4_refuseCode_0 : decode cX4_refuseCode 0 = .ok (.aload_n 0, 1) := by decide +kernel
theorem dX4_refuseCode_1 : decode cX4_refuseCode 1 = .ok (.iconst 4, 1) := by decide +kernel
theorem dX4_refuseCode_2 : decode cX4_refuseCode 2 = .ok (.aload_n 0, 1) := by decide +kernel
theorem dX4_refuseCode_3 : decode cX4_refuseCode 3 = .ok (.iload_n 1, 1) := by decide +kernel
theorem dX4_refuseCode_4 : decode cX4_refuseCode 4 = .ok (.invokestatic 65, 3) := by decide +kernel
theorem dX4_refuseCode_7 : decode cX4_refuseCode 7 = .ok (.invokevirtual 76, 3) := by decide +kernel
theorem dX4_refuseCode_10 : decode cX4_refuseCode 10 = .ok (.bipush (-6), 2) := by decide +kernel
theorem dX4_refuseCode_12 : decode cX4_refuseCode 12 = .ok (.if_icmp .ne 8, 3) := by decide +kernel
theorem dX4_refuseCode_15 : decode cX4_refuseCode 15 = .ok (.bipush (-6), 2) := by decide +kernel
theorem dX4_refuseCode_17 : decode cX4_refuseCode 17 = .ok (.goto 4, 3) := by decide +kernel
theorem dX4_refuseCode_20 : decode cX4_refuseCode 20 = .ok (.iconst 5, 1) := by decide +kernel
theorem dX4_refuseCode_21 : decode cX4_refuseCode 21 = .ok (.iconst (-1), 1) := by decide +kernel
theorem dX4_refuseCode_22 : decode cX4_refuseCode 22 = .ok (.invokevirtual 82, 3) := by decide +kernel
theorem dX4_refuseCode_25 : decode cX4_refuseCode 25 = .ok (.ireturn, 1) := by decide +kernel
set_option maxRecDepth 20000 in
theorem ggX4_lay_X4_weekday : GoodIn wsX4_lay wsX4_weekday := goodIn_r _ [5] (by decide +kernel) (by decide +kernel)
set_option maxRecDepth 20000 in
theorem gX4_lay_X4_weekday : GoodIn wsX4_lay (va_wsS RX4 73 yX4_weekday wsX4_weekday) := goodIn_app (goodIn_of _ (by decide +kernel)) ggX4_lay_X4_weekday
theorem dX4_lay_0 : decode cX4_lay 0 = .ok (.bipush 12, 2) := by decide +kernel
theorem dX4_lay_2 : decode cX4_lay 2 = .ok (.iconst 4, 1) := by decide +kernel
theorem dX4_lay_3 : decode cX4_lay 3 = .ok (.iload_n 1, 1) := by decide +kernel
theorem dX4_lay_4 : decode cX4_lay 4 = .ok (.imul, 1) := by decide +kernel
theorem dX4_lay_5 : decode cX4_lay 5 = .ok (.iadd, 1) := by decide +kernel
theorem dX4_lay_6 : decode cX4_lay 6 = .ok (.istore 5, 2) := by decide +kernel
theorem dX4_lay_8 : decode cX4_lay 8 = .ok (.aload_n 0, 1) := by decide +kernel
theorem dX4_lay_9 : decode cX4_lay 9 = .ok (.getfield 7, 3) := by decide +kernel
theorem dX4_lay_12 : decode cX4_lay 12 = .ok (.iload 5, 2) := by decide +kernel
theorem dX4_lay_14 : decode cX4_lay 14 = .ok (.iload_n 2, 1) := by decide +kernel
theorem dX4_lay_15 : decode cX4_lay 15 = .ok (.iconst 1, 1) := by decide +kernel
theorem dX4_lay_16 : decode cX4_lay 16 = .ok (.iadd, 1) := by decide +kernel
theorem dX4_lay_17 : decode cX4_lay 17 = .ok (.iastore, 1) := by decide +kernel
theorem dX4_lay_18 : decode cX4_lay 18 = .ok (.aload_n 0, 1) := by decide +kernel
theorem dX4_lay_19 : decode cX4_lay 19 = .ok (.getfield 7, 3) := by decide +kernel
theorem dX4_lay_22 : decode cX4_lay 22 = .ok (.iload 5, 2) := by decide +kernel
theorem dX4_lay_24 : decode cX4_lay 24 = .ok (.iconst 1, 1) := by decide +kernel
theorem dX4_lay_25 : decode cX4_lay 25 = .ok (.iadd, 1) := by decide +kernel
theorem dX4_lay_26 : decode cX4_lay 26 = .ok (.iload_n 3, 1) := by decide +kernel
theorem dX4_lay_27 : decode cX4_lay 27 = .ok (.iastore, 1) := by decide +kernel
theorem dX4_lay_28 : decode cX4_lay 28 = .ok (.aload_n 0, 1) := by decide +kernel
theorem dX4_lay_29 : decode cX4_lay 29 = .ok (.getfield 7, 3) := by decide +kernel
theorem dX4_lay_32 : decode cX4_lay 32 = .ok (.iload 5, 2) := by decide +kernel
theorem dX4_lay_34 : decode cX4_lay 34 = .ok (.iconst 2, 1) := by decide +kernel
theorem dX4_lay_35 : decode cX4_lay 35 = .ok (.iadd, 1) := by decide +kernel
theorem dX4_lay_36 : decode cX4_lay 36 = .ok (.iload 4, 2) := by decide +kernel
theorem dX4_lay_38 : decode cX4_lay 38 = .ok (.iastore, 1) := by decide +kernel
theorem dX4_lay_39 : decode cX4_lay 39 = .ok (.aload_n 0, 1) := by decide +kernel
theorem dX4_lay_40 : decode cX4_lay 40 = .ok (.getfield 7, 3) := by decide +kernel
theorem dX4_lay_43 : decode cX4_lay 43 = .ok (.iload 5, 2) := by decide +kernel
theorem dX4_lay_45 : decode cX4_lay 45 = .ok (.iconst 3, 1) := by decide +kernel
theorem dX4_lay_46 : decode cX4_lay 46 = .ok (.iadd, 1) := by decide +kernel
theorem dX4_lay_47 : decode cX4_lay 47 = .ok (.aload_n 0, 1) := by decide +kernel
theorem dX4_lay_48 : decode cX4_lay 48 = .ok (.getfield 7, 3) := by decide +kernel
theorem dX4_lay_51 : decode cX4_lay 51 = .ok (.iconst 5, 1) := by decide +kernel
theorem dX4_lay_52 : decode cX4_lay 52 = .ok (.iaload, 1) := by decide +kernel
theorem dX4_lay_53 : decode cX4_lay 53 = .ok (.invokestatic 73, 3) := by decide +kernel
theorem dX4_lay_56 : decode cX4_lay 56 = .ok (.iastore, 1) := by decide +kernel
theorem dX4_lay_57 : decode cX4_lay 57 = .ok (.return_, 1) := by decide +kernel
set_option maxRecDepth 20000 in
theorem ggX4_leave_X4_at : GoodIn wsX4_leave wsX4_at := goodIn_r _ [6, 1, 7, 8, 9, 10, 11, 12, 13, 14, 15, 16, 17, 18, 19, 20] (by decide +kernel) (by decide +kernel)
set_option maxRecDepth 20000 in
theorem gX4_leave_X4_at : GoodIn wsX4_leave (wsV RX4 58 RX4 yX4_at wsX4_at) := goodIn_app (goodIn_of _ (by decide +kernel)) ggX4_leave_X4_at
theorem dX4_leave_0 : decode cX4_leave 0 = .ok (.aload_n 0, 1) := by decide +kernel
theorem dX4_leave_1 : decode cX4_leave 1 = .ok (.getfield 7, 3) := by decide +kernel
theorem dX4_leave_4 : decode cX4_leave 4 = .ok (.sipush 204, 3) := by decide +kernel
theorem dX4_leave_7 : decode cX4_leave 7 = .ok (.bipush 48, 2) := by decide +kernel
theorem dX4_leave_9 : decode cX4_leave 9 = .ok (.aload_n 0, 1) := by decide +kernel
theorem dX4_leave_10 : decode cX4_leave 10 = .ok (.iload_n 1, 1) := by decide +kernel
theorem dX4_leave_11 : decode cX4_leave 11 = .ok (.iconst 3, 1) := by decide +kernel
theorem dX4_leave_12 : decode cX4_leave 12 = .ok (.invokevirtual 58, 3) := by decide +kernel
theorem dX4_leave_15 : decode cX4_leave 15 = .ok (.iconst 1, 1) := by decide +kernel
theorem dX4_leave_16 : decode cX4_leave 16 = .ok (.isub, 1) := by decide +kernel
theorem dX4_leave_17 : decode cX4_leave 17 = .ok (.imul, 1) := by decide +kernel
theorem dX4_leave_18 : decode cX4_leave 18 = .ok (.iadd, 1) := by decide +kernel
theorem dX4_leave_19 : decode cX4_leave 19 = .ok (.iload_n 1, 1) := by decide +kernel
theorem dX4_leave_20 : decode cX4_leave 20 = .ok (.iadd, 1) := by decide +kernel
theorem dX4_leave_21 : decode cX4_leave 21 = .ok (.aload_n 0, 1) := by decide +kernel
theorem dX4_leave_22 : decode cX4_leave 22 = .ok (.getfield 7, 3) := by decide +kernel
theorem dX4_leave_25 : decode cX4_leave 25 = .ok (.iconst 5, 1) := by decide +kernel
theorem dX4_leave_26 : decode cX4_leave 26 = .ok (.iaload, 1) := by decide +kernel
theorem dX4_leave_27 : decode cX4_leave 27 = .ok (.iastore, 1) := by decide +kernel
theorem dX4_leave_28 : decode cX4_leave 28 = .ok (.aload_n 0, 1) := by decide +kernel
theorem dX4_leave_29 : decode cX4_leave 29 = .ok (.getfield 7, 3) := by decide +kernel
theorem dX4_leave_32 : decode cX4_leave 32 = .ok (.bipush 12, 2) := by decide +kernel
theorem dX4_leave_34 : decode cX4_leave 34 = .ok (.iconst 4, 1) := by decide +kernel
theorem dX4_leave_35 : decode cX4_leave 35 = .ok (.iload_n 1, 1) := by decide +kernel
theorem dX4_leave_36 : decode cX4_leave 36 = .ok (.imul, 1) := by decide +kernel
theorem dX4_leave_37 : decode cX4_leave 37 = .ok (.iadd, 1) := by decide +kernel
theorem dX4_leave_38 : decode cX4_leave 38 = .ok (.iconst 0, 1) := by decide +kernel
theorem dX4_leave_39 : decode cX4_leave 39 = .ok (.iastore, 1) := by decide +kernel
theorem dX4_leave_40 : decode cX4_leave 40 = .ok (.return_, 1) := by decide +kernel
set_option maxRecDepth 20000 in
theorem ggX4_isSender_X4_in : GoodIn wsX4_isSender wsX4_in := goodIn_r _ [4] (by decide +kernel) (by decide +kernel)
set_option maxRecDepth 20000 in
theorem gX4_isSender_X4_in : GoodIn wsX4_isSender (va_wsS RX4 50 yX4_in wsX4_in) := goodIn_app (goodIn_of _ (by decide +kernel)) ggX4_isSender_X4_in
theorem dX4_isSender_0 : decode cX4_isSender 0 = .ok (.iload_n 0, 1) := by decide +kernel
theorem dX4_isSender_1 : decode cX4_isSender 1 = .ok (.iconst 0, 1) := by decide +kernel
theorem dX4_isSender_2 : decode cX4_isSender 2 = .ok (.bipush 9, 2) := by decide +kernel
theorem dX4_isSender_4 : decode cX4_isSender 4 = .ok (.invokestatic 50, 3) := by decide +kernel
theorem dX4_isSender_7 : decode cX4_isSender 7 = .ok (.ireturn, 1) := by decide +kernel
theorem dX4_ofSender_0 : decode cX4_ofSender 0 = .ok (.aload_n 0, 1) := by decide +kernel
theorem dX4_ofSender_1 : decode cX4_ofSender 1 = .ok (.getfield 7, 3) := by decide +kernel
theorem dX4_ofSender_4 : decode cX4_ofSender 4 = .ok (.sipush 540, 3) := by decide +kernel
theorem dX4_ofSender_7 : decode cX4_ofSender 7 = .ok (.iconst 4, 1) := by decide +kernel
theorem dX4_ofSender_8 : decode cX4_ofSender 8 = .ok (.iload_n 1, 1) := by decide +kernel
theorem dX4_ofSender_9 : decode cX4_ofSender 9 = .ok (.imul, 1) := by decide +kernel
theorem dX4_ofSender_10 : decode cX4_ofSender 10 = .ok (.iadd, 1) := by decide +kernel
theorem dX4_ofSender_11 : decode cX4_ofSender 11 = .ok (.iload_n 2, 1) := by decide +kernel
theorem dX4_ofSender_12 : decode cX4_ofSender 12 = .ok (.iadd, 1) := by decide +kernel
theorem dX4_ofSender_13 : decode cX4_ofSender 13 = .ok (.iaload, 1) := by decide +kernel
theorem dX4_ofSender_14 : decode cX4_ofSender 14 = .ok (.ireturn, 1) := by decide +kernel
theorem dX4_count_0 : decode cX4_count 0 = .ok (.aload_n 0, 1) := by decide +kernel
theorem dX4_count_1 : decode cX4_count 1 = .ok (.getfield 7, 3) := by decide +kernel
theorem dX4_count_4 : decode cX4_count 4 = .ok (.sipush 540, 3) := by decide +kernel
theorem dX4_count_7 : decode cX4_count 7 = .ok (.iconst 4, 1) := by decide +kernel
theorem dX4_count_8 : decode cX4_count 8 = .ok (.iload_n 1, 1) := by decide +kernel
theorem dX4_count_9 : decode cX4_count 9 = .ok (.imul, 1) := by decide +kernel
theorem dX4_count_10 : decode cX4_count 10 = .ok (.iadd, 1) := by decide +kernel
theorem dX4_count_11 : decode cX4_count 11 = .ok (.iload_n 2, 1) := by decide +kernel
theorem dX4_count_12 : decode cX4_count 12 = .ok (.iadd, 1) := by decide +kernel
theorem dX4_count_13 : decode cX4_count 13 = .ok (.dup2, 1) := by decide +kernel
theorem dX4_count_14 : decode cX4_count 14 = .ok (.iaload, 1) := by decide +kernel
theorem dX4_count_15 : decode cX4_count 15 = .ok (.iload_n 3, 1) := by decide +kernel
theorem dX4_count_16 : decode cX4_count 16 = .ok (.iadd, 1) := by decide +kernel
theorem dX4_count_17 : decode cX4_count 17 = .ok (.iastore, 1) := by decide +kernel
theorem dX4_count_18 : decode cX4_count 18 = .ok (.return_, 1) := by decide +kernel
set_option maxRecDepth 20000 in
theorem ggX4_whyNotCome_X4_isSender : GoodIn wsX4_whyNotCome wsX4_isSender := goodIn_r _ [4, 5, 6, 3, 7] (by decide +kernel) (by decide +kernel)
set_option maxRecDepth 20000 in
theorem gX4_whyNotCome_X4_isSender : GoodIn wsX4_whyNotCome (va_wsS RX4 86 yX4_isSender wsX4_isSender) := goodIn_app (goodIn_of _ (by decide +kernel)) ggX4_whyNotCome_X4_isSender
set_option maxRecDepth 20000 in
theorem ggX4_whyNotCome_X4_in : GoodIn wsX4_whyNotCome wsX4_in := goodIn_r _ [7] (by decide +kernel) (by decide +kernel)
set_option maxRecDepth 20000 in
theorem gX4_whyNotCome_X4_in : GoodIn wsX4_whyNotCome (va_wsS RX4 50 yX4_in wsX4_in) := goodIn_app (goodIn_of _ (by decide +kernel)) ggX4_whyNotCome_X4_in
set_option maxRecDepth 20000 in
theorem ggX4_whyNotCome_X4_firstPlace : GoodIn wsX4_whyNotCome wsX4_firstPlace := goodIn_r _ [11, 12, 13, 14, 3, 15, 16, 17, 18, 19, 20, 21, 22, 23, 24, 25, 26, 27, 28, 29, 30, 31, 42, 43, 44, 45, 46, 47, 48, 49, 50, 51, 52, 53, 54, 55] (by decide +kernel) (by decide +kernel)
set_option maxRecDepth 20000 in
theorem gX4_whyNotCome_X4_firstPlace : GoodIn wsX4_whyNotCome (wsV RX4 89 RX4 yX4_firstPlace wsX4_firstPlace) := goodIn_app (goodIn_of _ (by decide +kernel)) ggX4_whyNotCome_X4_firstPlace
set_option maxRecDepth 20000 in
theorem ggX4_whyNotCome_X4_refusePlace : GoodIn wsX4_whyNotCome wsX4_refusePlace := goodIn_r _ [35, 12, 13, 14, 3, 15, 16, 17, 18, 19, 20, 36, 37, 38, 39, 40, 41, 42, 43, 44, 45, 46, 47, 48, 49, 50, 51, 52, 53, 54, 55] (by decide +kernel) (by decide +kernel)
set_option maxRecDepth 20000 in
theorem gX4_whyNotCome_X4_refusePlace : GoodIn wsX4_whyNotCome (wsV RX4 92 RX4 yX4_refusePlace wsX4_refusePlace) := goodIn_app (goodIn_of _ (by decide +kernel)) ggX4_whyNotCome_X4_refusePlace
theorem dX4_whyNotCome_0 : decode cX4_whyNotCome 0 = .ok (.iload_n 1, 1) := by decide +kernel
theorem dX4_whyNotCome_1 : decode cX4_whyNotCome 1 = .ok (.invokestatic 86, 3) := by decide +kernel
theorem dX4_whyNotCome_4 : decode cX4_whyNotCome 4 = .ok (.ifCond .ne 5, 3) := by decide +kernel
theorem dX4_whyNotCome_7 : decode cX4_whyNotCome 7 = .ok (.iconst (-1), 1) := by decide +kernel
theorem dX4_whyNotCome_8 : decode cX4_whyNotCome 8 = .ok (.ireturn, 1) := by decide +kernel
theorem dX4_whyNotCome_9 : decode cX4_whyNotCome 9 = .ok (.iload_n 2, 1) := by decide +kernel
theorem dX4_whyNotCome_10 : decode cX4_whyNotCome 10 = .ok (.iconst 0, 1) := by decide +kernel
theorem dX4_whyNotCome_11 : decode cX4_whyNotCome 11 = .ok (.iconst 2, 1) := by decide +kernel
theorem dX4_whyNotCome_12 : decode cX4_whyNotCome 12 = .ok (.invokestatic 50, 3) := by decide +kernel
theorem dX4_whyNotCome_15 : decode cX4_whyNotCome 15 = .ok (.ifCond .ne 6, 3) := by decide +kernel
theorem dX4_whyNotCome_18 : decode cX4_whyNotCome 18 = .ok (.bipush (-2), 2) := by decide +kernel
theorem dX4_whyNotCome_20 : decode cX4_whyNotCome 20 = .ok (.ireturn, 1) := by decide +kernel
theorem dX4_whyNotCome_21 : decode cX4_whyNotCome 21 = .ok (.aload_n 0, 1) := by decide +kernel
theorem dX4_whyNotCome_22 : decode cX4_whyNotCome 22 = .ok (.iconst 2, 1) := by decide +kernel
theorem dX4_whyNotCome_23 : decode cX4_whyNotCome 23 = .ok (.iload_n 2, 1) := by decide +kernel
theorem dX4_whyNotCome_24 : decode cX4_whyNotCome 24 = .ok (.imul, 1) := by decide +kernel
theorem dX4_whyNotCome_25 : decode cX4_whyNotCome 25 = .ok (.iconst 5, 1) := by decide +kernel
theorem dX4_whyNotCome_26 : decode cX4_whyNotCome 26 = .ok (.invokevirtual 89, 3) := by decide +kernel
theorem dX4_whyNotCome_29 : decode cX4_whyNotCome 29 = .ok (.bipush (-6), 2) := by decide +kernel
theorem dX4_whyNotCome_31 : decode cX4_whyNotCome 31 = .ok (.if_icmp .ne 14, 3) := by decide +kernel
theorem dX4_whyNotCome_34 : decode cX4_whyNotCome 34 = .ok (.aload_n 0, 1) := by decide +kernel
theorem dX4_whyNotCome_35 : decode cX4_whyNotCome 35 = .ok (.iconst 2, 1) := by decide +kernel
theorem dX4_whyNotCome_36 : decode cX4_whyNotCome 36 = .ok (.iload_n 2, 1) := by decide +kernel
theorem dX4_whyNotCome_37 : decode cX4_whyNotCome 37 = .ok (.imul, 1) := by decide +kernel
theorem dX4_whyNotCome_38 : decode cX4_whyNotCome 38 = .ok (.iconst 5, 1) := by decide +kernel
theorem dX4_whyNotCome_39 : decode cX4_whyNotCome 39 = .ok (.invokevirtual 92, 3) := by decide +kernel
theorem dX4_whyNotCome_42 : decode cX4_whyNotCome 42 = .ok (.goto 4, 3) := by decide +kernel
theorem dX4_whyNotCome_45 : decode cX4_whyNotCome 45 = .ok (.iconst 0, 1) := by decide +kernel
theorem dX4_whyNotCome_46 : decode cX4_whyNotCome 46 = .ok (.ireturn, 1) := by decide +kernel
set_option maxRecDepth 20000 in
theorem ggX4_comes_X4_firstPlace : GoodIn wsX4_comes wsX4_firstPlace := goodIn_r _ [6, 7, 8, 9, 5, 10, 11, 12, 13, 14, 1, 15, 16, 17, 18, 19, 20, 21, 22, 23, 24, 25, 37, 38, 39, 40, 41, 42, 43, 44, 45, 46, 47, 48, 49, 50] (by decide +kernel) (by decide +kernel)
set_option maxRecDepth 20000 in
theorem gX4_comes_X4_firstPlace : GoodIn wsX4_comes (wsV RX4 89 RX4 yX4_firstPlace wsX4_firstPlace) := goodIn_app (goodIn_of _ (by decide +kernel)) ggX4_comes_X4_firstPlace
set_option maxRecDepth 20000 in
theorem ggX4_comes_X4_lay : GoodIn wsX4_comes wsX4_lay := goodIn_r _ [29, 1, 19, 20, 5, 21, 37, 38, 39, 40, 41, 42, 43, 44, 45, 46, 47, 48, 49, 50] (by decide +kernel) (by decide +kernel)
set_option maxRecDepth 20000 in
theorem gX4_comes_X4_lay : GoodIn wsX4_comes (wsV RX4 95 RX4 yX4_lay wsX4_lay) := goodIn_app (goodIn_of _ (by decide +kernel)) ggX4_comes_X4_lay
set_option maxRecDepth 20000 in
theorem ggX4_comes_X4_codeOn : GoodIn wsX4_comes wsX4_codeOn := goodIn_r _ [33, 11, 12, 13, 5, 14, 1, 34, 35, 36, 37, 38, 39, 40, 41, 42, 43, 44, 45, 46, 47, 48, 49, 50] (by decide +kernel) (by decide +kernel)
set_option maxRecDepth 20000 in
theorem gX4_comes_X4_codeOn : GoodIn wsX4_comes (wsV RX4 99 RX4 yX4_codeOn wsX4_codeOn) := goodIn_app (goodIn_of _ (by decide +kernel)) ggX4_comes_X4_codeOn
theorem dX4_comes_0 : decode cX4_comes 0 = .ok (.aload_n 0, 1) := by decide +kernel
theorem dX4_comes_1 : decode cX4_comes 1 = .ok (.iconst 2, 1) := by decide +kernel
theorem dX4_comes_2 : decode cX4_comes 2 = .ok (.iload_n 2, 1) := by decide +kernel
theorem dX4_comes_3 : decode cX4_comes 3 = .ok (.imul, 1) := by decide +kernel
theorem dX4_comes_4 : decode cX4_comes 4 = .ok (.iconst 5, 1) := by decide +kernel
theorem dX4_comes_5 : decode cX4_comes 5 = .ok (.invokevirtual 89, 3) := by decide +kernel
theorem dX4_comes_8 : decode cX4_comes 8 = .ok (.istore_n 3, 1) := by decide +kernel
theorem dX4_comes_9 : decode cX4_comes 9 = .ok (.aload_n 0, 1) := by decide +kernel
theorem dX4_comes_10 : decode cX4_comes 10 = .ok (.iload_n 3, 1) := by decide +kernel
theorem dX4_comes_11 : decode cX4_comes 11 = .ok (.iload_n 1, 1) := by decide +kernel
theorem dX4_comes_12 : decode cX4_comes 12 = .ok (.iload_n 2, 1) := by decide +kernel
theorem dX4_comes_13 : decode cX4_comes 13 = .ok (.aload_n 0, 1) := by decide +kernel
theorem dX4_comes_14 : decode cX4_comes 14 = .ok (.getfield 7, 3) := by decide +kernel
theorem dX4_comes_17 : decode cX4_comes 17 = .ok (.iconst 5, 1) := by decide +kernel
theorem dX4_comes_18 : decode cX4_comes 18 = .ok (.iaload, 1) := by decide +kernel
theorem dX4_comes_19 : decode cX4_comes 19 = .ok (.invokevirtual 95, 3) := by decide +kernel
theorem dX4_comes_22 : decode cX4_comes 22 = .ok (.aload_n 0, 1) := by decide +kernel
theorem dX4_comes_23 : decode cX4_comes 23 = .ok (.getfield 7, 3) := by decide +kernel
theorem dX4_comes_26 : decode cX4_comes 26 = .ok (.bipush 7, 2) := by decide +kernel
theorem dX4_comes_28 : decode cX4_comes 28 = .ok (.dup2, 1) := by decide +kernel
theorem dX4_comes_29 : decode cX4_comes 29 = .ok (.iaload, 1) := by decide +kernel
theorem dX4_comes_30 : decode cX4_comes 30 = .ok (.iconst 1, 1) := by decide +kernel
theorem dX4_comes_31 : decode cX4_comes 31 = .ok (.iadd, 1) := by decide +kernel
theorem dX4_comes_32 : decode cX4_comes 32 = .ok (.iastore, 1) := by decide +kernel
theorem dX4_comes_33 : decode cX4_comes 33 = .ok (.aload_n 0, 1) := by decide +kernel
theorem dX4_comes_34 : decode cX4_comes 34 = .ok (.iload_n 3, 1) := by decide +kernel
theorem dX4_comes_35 : decode cX4_comes 35 = .ok (.invokevirtual 99, 3) := by decide +kernel
theorem dX4_comes_38 : decode cX4_comes 38 = .ok (.ireturn, 1) := by decide +kernel
set_option maxRecDepth 20000 in
theorem ggX4_come_X4_whyNotCome : GoodIn wsX4_come wsX4_whyNotCome := goodIn_r _ [5, 6, 7, 4, 8, 9, 10, 11, 12, 13, 14, 15, 16, 17, 18, 19, 20, 21, 22, 23, 24, 25, 26, 27, 28, 29, 30, 31, 32, 33, 34, 35, 36, 37, 38, 39, 40, 41, 42, 43, 44, 45, 67, 68, 69, 70, 71, 72, 73, 74, 75, 76, 77, 78, 79, 80] (by decide +kernel) (by decide +kernel)
set_option maxRecDepth 20000 in
theorem gX4_come_X4_whyNotCome : GoodIn wsX4_come (wsV RX4 102 RX4 yX4_whyNotCome wsX4_whyNotCome) := goodIn_app (goodIn_of _ (by decide +kernel)) ggX4_come_X4_whyNotCome
set_option maxRecDepth 20000 in
theorem ggX4_come_X4_record : GoodIn wsX4_come wsX4_record := goodIn_r _ [49, 50, 51, 24, 67, 68, 69, 70, 71, 72, 73, 74, 75, 76, 77, 78, 79, 80] (by decide +kernel) (by decide +kernel)
set_option maxRecDepth 20000 in
theorem gX4_come_X4_record : GoodIn wsX4_come (wsV RX4 47 RX4 yX4_record wsX4_record) := goodIn_app (goodIn_of _ (by decide +kernel)) ggX4_come_X4_record
set_option maxRecDepth 20000 in
theorem ggX4_come_X4_comes : GoodIn wsX4_come wsX4_comes := goodIn_r _ [55, 24, 12, 13, 14, 4, 15, 16, 17, 18, 19, 20, 21, 22, 23, 25, 26, 27, 28, 29, 30, 31, 32, 33, 34, 35, 56, 57, 58, 59, 60, 61, 62, 63, 64, 65, 66, 67, 68, 69, 70, 71, 72, 73, 74, 75, 76, 77, 78, 79, 80] (by decide +kernel) (by decide +kernel)
set_option maxRecDepth 20000 in
theorem gX4_come_X4_comes : GoodIn wsX4_come (wsV RX4 105 RX4 yX4_comes wsX4_comes) := goodIn_app (goodIn_of _ (by decide +kernel)) ggX4_come_X4_comes
theorem dX4_come_0 : decode cX4_come 0 = .ok (.aload_n 0, 1) := by decide +kernel
theorem dX4_come_1 : decode cX4_come 1 = .ok (.iload_n 1, 1) := by decide +kernel
theorem dX4_come_2 : decode cX4_come 2 = .ok (.iload_n 2, 1) := by decide +kernel
theorem dX4_come_3 : decode cX4_come 3 = .ok (.invokevirtual 102, 3) := by decide +kernel
theorem dX4_come_6 : decode cX4_come 6 = .ok (.istore_n 3, 1) := by decide +kernel
theorem dX4_come_7 : decode cX4_come 7 = .ok (.iload_n 3, 1) := by decide +kernel
theorem dX4_come_8 : decode cX4_come 8 = .ok (.ifCond .ge 5, 3) := by decide +kernel
theorem dX4_come_11 : decode cX4_come 11 = .ok (.iload_n 3, 1) := by decide +kernel
theorem dX4_come_12 : decode cX4_come 12 = .ok (.ireturn, 1) := by decide +kernel
theorem dX4_come_13 : decode cX4_come 13 = .ok (.aload_n 0, 1) := by decide +kernel
theorem dX4_come_14 : decode cX4_come 14 = .ok (.invokevirtual 47, 3) := by decide +kernel
theorem dX4_come_17 : decode cX4_come 17 = .ok (.aload_n 0, 1) := by decide +kernel
theorem dX4_come_18 : decode cX4_come 18 = .ok (.iload_n 1, 1) := by decide +kernel
theorem dX4_come_19 : decode cX4_come 19 = .ok (.iload_n 2, 1) := by decide +kernel
theorem dX4_come_20 : decode cX4_come 20 = .ok (.invokevirtual 105, 3) := by decide +kernel
theorem dX4_come_23 : decode cX4_come 23 = .ok (.ireturn, 1) := by decide +kernel
set_option maxRecDepth 20000 in
theorem ggX4_feeOn_X4_at : GoodIn wsX4_feeOn wsX4_at := goodIn_r _ [6, 1, 7, 8, 9, 10, 11, 12, 13, 14, 15, 16, 17, 18, 19, 20] (by decide +kernel) (by decide +kernel)
set_option maxRecDepth 20000 in
theorem gX4_feeOn_X4_at : GoodIn wsX4_feeOn (wsV RX4 58 RX4 yX4_at wsX4_at) := goodIn_app (goodIn_of _ (by decide +kernel)) ggX4_feeOn_X4_at
theorem dX4_feeOn_0 : decode cX4_feeOn 0 = .ok (.iload_n 2, 1) := by decide +kernel
theorem dX4_feeOn_1 : decode cX4_feeOn 1 = .ok (.aload_n 0, 1) := by decide +kernel
theorem dX4_feeOn_2 : decode cX4_feeOn 2 = .ok (.iload_n 1, 1) := by decide +kernel
theorem dX4_feeOn_3 : decode cX4_feeOn 3 = .ok (.iconst 2, 1) := by decide +kernel
theorem dX4_feeOn_4 : decode cX4_feeOn 4 = .ok (.invokevirtual 58, 3) := by decide +kernel
theorem dX4_feeOn_7 : decode cX4_feeOn 7 = .ok (.isub, 1) := by decide +kernel
theorem dX4_feeOn_8 : decode cX4_feeOn 8 = .ok (.aload_n 0, 1) := by decide +kernel
theorem dX4_feeOn_9 : decode cX4_feeOn 9 = .ok (.getfield 7, 3) := by decide +kernel
theorem dX4_feeOn_12 : decode cX4_feeOn 12 = .ok (.iconst 1, 1) := by decide +kernel
theorem dX4_feeOn_13 : decode cX4_feeOn 13 = .ok (.iaload, 1) := by decide +kernel
theorem dX4_feeOn_14 : decode cX4_feeOn 14 = .ok (.isub, 1) := by decide +kernel
theorem dX4_feeOn_15 : decode cX4_feeOn 15 = .ok (.istore_n 3, 1) := by decide +kernel
theorem dX4_feeOn_16 : decode cX4_feeOn 16 = .ok (.iload_n 3, 1) := by decide +kernel
theorem dX4_feeOn_17 : decode cX4_feeOn 17 = .ok (.ifCond .le 23, 3) := by decide +kernel
theorem dX4_feeOn_20 : decode cX4_feeOn 20 = .ok (.aload_n 0, 1) := by decide +kernel
theorem dX4_feeOn_21 : decode cX4_feeOn 21 = .ok (.iload_n 1, 1) := by decide +kernel
theorem dX4_feeOn_22 : decode cX4_feeOn 22 = .ok (.iconst 1, 1) := by decide +kernel
theorem dX4_feeOn_23 : decode cX4_feeOn 23 = .ok (.invokevirtual 58, 3) := by decide +kernel
theorem dX4_feeOn_26 : decode cX4_feeOn 26 = .ok (.iconst 1, 1) := by decide +kernel
theorem dX4_feeOn_27 : decode cX4_feeOn 27 = .ok (.iadd, 1) := by decide +kernel
theorem dX4_feeOn_28 : decode cX4_feeOn 28 = .ok (.aload_n 0, 1) := by decide +kernel
theorem dX4_feeOn_29 : decode cX4_feeOn 29 = .ok (.getfield 7, 3) := by decide +kernel
theorem dX4_feeOn_32 : decode cX4_feeOn 32 = .ok (.iconst 2, 1) := by decide +kernel
theorem dX4_feeOn_33 : decode cX4_feeOn 33 = .ok (.iaload, 1) := by decide +kernel
theorem dX4_feeOn_34 : decode cX4_feeOn 34 = .ok (.imul, 1) := by decide +kernel
theorem dX4_feeOn_35 : decode cX4_feeOn 35 = .ok (.iload_n 3, 1) := by decide +kernel
theorem dX4_feeOn_36 : decode cX4_feeOn 36 = .ok (.imul, 1) := by decide +kernel
theorem dX4_feeOn_37 : decode cX4_feeOn 37 = .ok (.goto 4, 3) := by decide +kernel
theorem dX4_feeOn_40 : decode cX4_feeOn 40 = .ok (.iconst 0, 1) := by decide +kernel
theorem dX4_feeOn_41 : decode cX4_feeOn 41 = .ok (.ireturn, 1) := by decide +kernel
theorem dX4_isLocked_0 : decode cX4_isLocked 0 = .ok (.aload_n 0, 1) := by decide +kernel
theorem dX4_isLocked_1 : decode cX4_isLocked 1 = .ok (.getfield 7, 3) := by decide +kernel
theorem dX4_isLocked_4 : decode cX4_isLocked 4 = .ok (.bipush 6, 2) := by decide +kernel
theorem dX4_isLocked_6 : decode cX4_isLocked 6 = .ok (.iaload, 1) := by decide +kernel
theorem dX4_isLocked_7 : decode cX4_isLocked 7 = .ok (.iconst 3, 1) := by decide +kernel
theorem dX4_isLocked_8 : decode cX4_isLocked 8 = .ok (.if_icmp .ne 7, 3) := by decide +kernel
theorem dX4_isLocked_11 : decode cX4_isLocked 11 = .ok (.iconst 1, 1) := by decide +kernel
theorem dX4_isLocked_12 : decode cX4_isLocked 12 = .ok (.goto 4, 3) := by decide +kernel
theorem dX4_isLocked_15 : decode cX4_isLocked 15 = .ok (.iconst 0, 1) := by decide +kernel
theorem dX4_isLocked_16 : decode cX4_isLocked 16 = .ok (.ireturn, 1) := by decide +kernel
set_option maxRecDepth 20000 in
theorem ggX4_whyNotFetch_X4_in : GoodIn wsX4_whyNotFetch wsX4_in := goodIn_r _ [4] (by decide +kernel) (by decide +kernel)
set_option maxRecDepth 20000 in
theorem gX4_whyNotFetch_X4_in : GoodIn wsX4_whyNotFetch (va_wsS RX4 50 yX4_in wsX4_in) := goodIn_app (goodIn_of _ (by decide +kernel)) ggX4_whyNotFetch_X4_in
set_option maxRecDepth 20000 in
theorem ggX4_whyNotFetch_X4_isLocked : GoodIn wsX4_whyNotFetch wsX4_isLocked := goodIn_r _ [8, 9, 16, 17, 18, 19, 20, 21, 22, 23, 24, 25, 26, 27, 28, 29] (by decide +kernel) (by decide +kernel)
set_option maxRecDepth 20000 in
theorem gX4_whyNotFetch_X4_isLocked : GoodIn wsX4_whyNotFetch (wsV RX4 108 RX4 yX4_isLocked wsX4_isLocked) := goodIn_app (goodIn_of _ (by decide +kernel)) ggX4_whyNotFetch_X4_isLocked
set_option maxRecDepth 20000 in
theorem ggX4_whyNotFetch_X4_refuseBy : GoodIn wsX4_whyNotFetch wsX4_refuseBy := goodIn_r _ [13, 14, 15, 16, 17, 18, 19, 20, 21, 22, 23, 24, 25, 26, 27, 28, 29] (by decide +kernel) (by decide +kernel)
set_option maxRecDepth 20000 in
theorem gX4_whyNotFetch_X4_refuseBy : GoodIn wsX4_whyNotFetch (wsV RX4 82 RX4 yX4_refuseBy wsX4_refuseBy) := goodIn_app (goodIn_of _ (by decide +kernel)) ggX4_whyNotFetch_X4_refuseBy
theorem dX4_whyNotFetch_0 : decode cX4_whyNotFetch 0 = .ok (.iload_n 1, 1) := by decide +kernel
theorem dX4_whyNotFetch_1 : decode cX4_whyNotFetch 1 = .ok (.iconst 0, 1) := by decide +kernel
theorem dX4_whyNotFetch_2 : decode cX4_whyNotFetch 2 = .ok (.sipush 9999, 3) := by decide +kernel
theorem dX4_whyNotFetch_5 : decode cX4_whyNotFetch 5 = .ok (.invokestatic 50, 3) := by decide +kernel
theorem dX4_whyNotFetch_8 : decode cX4_whyNotFetch 8 = .ok (.ifCond .ne 6, 3) := by decide +kernel
theorem dX4_whyNotFetch_11 : decode cX4_whyNotFetch 11 = .ok (.bipush (-2), 2) := by decide +kernel
theorem dX4_whyNotFetch_13 : decode cX4_whyNotFetch 13 = .ok (.ireturn, 1) := by decide +kernel
theorem dX4_whyNotFetch_14 : decode cX4_whyNotFetch 14 = .ok (.aload_n 0, 1) := by decide +kernel
theorem dX4_whyNotFetch_15 : decode cX4_whyNotFetch 15 = .ok (.invokevirtual 108, 3) := by decide +kernel
theorem dX4_whyNotFetch_18 : decode cX4_whyNotFetch 18 = .ok (.ifCond .eq 15, 3) := by decide +kernel
theorem dX4_whyNotFetch_21 : decode cX4_whyNotFetch 21 = .ok (.aload_n 0, 1) := by decide +kernel
theorem dX4_whyNotFetch_22 : decode cX4_whyNotFetch 22 = .ok (.iconst 2, 1) := by decide +kernel
theorem dX4_whyNotFetch_23 : decode cX4_whyNotFetch 23 = .ok (.bipush (-6), 2) := by decide +kernel
theorem dX4_whyNotFetch_25 : decode cX4_whyNotFetch 25 = .ok (.bipush (-3), 2) := by decide +kernel
theorem dX4_whyNotFetch_27 : decode cX4_whyNotFetch 27 = .ok (.invokevirtual 82, 3) := by decide +kernel
theorem dX4_whyNotFetch_30 : decode cX4_whyNotFetch 30 = .ok (.goto 4, 3) := by decide +kernel
theorem dX4_whyNotFetch_33 : decode cX4_whyNotFetch 33 = .ok (.iconst 0, 1) := by decide +kernel
theorem dX4_whyNotFetch_34 : decode cX4_whyNotFetch 34 = .ok (.ireturn, 1) := by decide +kernel
set_option maxRecDepth 20000 in
theorem ggX4_fetches_X4_placeBy : GoodIn wsX4_fetches wsX4_placeBy := goodIn_r _ [6, 7, 8, 5, 9, 10, 11, 12, 13, 14, 15, 16, 17, 18, 19, 20, 21, 22, 23, 1, 36, 37, 38, 39, 40, 41, 42, 43, 44, 45, 46, 47, 48, 49] (by decide +kernel) (by decide +kernel)
set_option maxRecDepth 20000 in
theorem gX4_fetches_X4_placeBy : GoodIn wsX4_fetches (wsV RX4 112 RX4 yX4_placeBy wsX4_placeBy) := goodIn_app (goodIn_of _ (by decide +kernel)) ggX4_fetches_X4_placeBy
set_option maxRecDepth 20000 in
theorem ggX4_fetches_X4_feeOn : GoodIn wsX4_fetches wsX4_feeOn := goodIn_r _ [27, 1, 20, 21, 22, 5, 23, 36, 37, 38, 39, 40, 41, 42, 43, 44, 45, 46, 47, 48, 49] (by decide +kernel) (by decide +kernel)
set_option maxRecDepth 20000 in
theorem gX4_fetches_X4_feeOn : GoodIn wsX4_fetches (wsV RX4 115 RX4 yX4_feeOn wsX4_feeOn) := goodIn_app (goodIn_of _ (by decide +kernel)) ggX4_fetches_X4_feeOn
set_option maxRecDepth 20000 in
theorem ggX4_fetches_X4_at : GoodIn wsX4_fetches wsX4_at := goodIn_r _ [23, 1, 36, 37, 38, 39, 40, 41, 42, 43, 44, 45, 46, 47, 48, 49] (by decide +kernel) (by decide +kernel)
set_option maxRecDepth 20000 in
theorem gX4_fetches_X4_at : GoodIn wsX4_fetches (wsV RX4 58 RX4 yX4_at wsX4_at) := goodIn_app (goodIn_of _ (by decide +kernel)) ggX4_fetches_X4_at
set_option maxRecDepth 20000 in
theorem ggX4_fetches_X4_count : GoodIn wsX4_fetches wsX4_count := goodIn_r _ [31, 1, 36, 37, 38, 39, 40, 41, 42, 43, 44, 45, 46, 47, 48, 49] (by decide +kernel) (by decide +kernel)
set_option maxRecDepth 20000 in
theorem gX4_fetches_X4_count : GoodIn wsX4_fetches (wsV RX4 118 RX4 yX4_count wsX4_count) := goodIn_app (goodIn_of _ (by decide +kernel)) ggX4_fetches_X4_count
set_option maxRecDepth 20000 in
theorem ggX4_fetches_X4_leave : GoodIn wsX4_fetches wsX4_leave := goodIn_r _ [35, 1, 20, 21, 22, 5, 23, 36, 37, 38, 39, 40, 41, 42, 43, 44, 45, 46, 47, 48, 49] (by decide +kernel) (by decide +kernel)
set_option maxRecDepth 20000 in
theorem gX4_fetches_X4_leave : GoodIn wsX4_fetches (wsV RX4 122 RX4 yX4_leave wsX4_leave) := goodIn_app (goodIn_of _ (by decide +kernel)) ggX4_fetches_X4_leave
theorem dX4_fetches_0 : decode cX4_fetches 0 = .ok (.aload_n 0, 1) := by decide +kernel
theorem dX4_fetches_1 : decode cX4_fetches 1 = .ok (.iload_n 1, 1) := by decide +kernel
theorem dX4_fetches_2 : decode cX4_fetches 2 = .ok (.invokevirtual 112, 3) := by decide +kernel
theorem dX4_fetches_5 : decode cX4_fetches 5 = .ok (.istore_n 2, 1) := by decide +kernel
theorem dX4_fetches_6 : decode cX4_fetches 6 = .ok (.iload_n 2, 1) := by decide +kernel
theorem dX4_fetches_7 : decode cX4_fetches 7 = .ok (.bipush (-6), 2) := by decide +kernel
theorem dX4_fetches_9 : decode cX4_fetches 9 = .ok (.if_icmp .ne 17, 3) := by decide +kernel
theorem dX4_fetches_12 : decode cX4_fetches 12 = .ok (.aload_n 0, 1) := by decide +kernel
theorem dX4_fetches_13 : decode cX4_fetches 13 = .ok (.getfield 7, 3) := by decide +kernel
theorem dX4_fetches_16 : decode cX4_fetches 16 = .ok (.bipush 6, 2) := by decide +kernel
theorem dX4_fetches_18 : decode cX4_fetches 18 = .ok (.dup2, 1) := by decide +kernel
theorem dX4_fetches_19 : decode cX4_fetches 19 = .ok (.iaload, 1) := by decide +kernel
theorem dX4_fetches_20 : decode cX4_fetches 20 = .ok (.iconst 1, 1) := by decide +kernel
theorem dX4_fetches_21 : decode cX4_fetches 21 = .ok (.iadd, 1) := by decide +kernel
theorem dX4_fetches_22 : decode cX4_fetches 22 = .ok (.iastore, 1) := by decide +kernel
theorem dX4_fetches_23 : decode cX4_fetches 23 = .ok (.bipush (-7), 2) := by decide +kernel
theorem dX4_fetches_25 : decode cX4_fetches 25 = .ok (.ireturn, 1) := by decide +kernel
theorem dX4_fetches_26 : decode cX4_fetches 26 = .ok (.aload_n 0, 1) := by decide +kernel
theorem dX4_fetches_27 : decode cX4_fetches 27 = .ok (.iload_n 2, 1) := by decide +kernel
theorem dX4_fetches_28 : decode cX4_fetches 28 = .ok (.aload_n 0, 1) := by decide +kernel
theorem dX4_fetches_29 : decode cX4_fetches 29 = .ok (.getfield 7, 3) := by decide +kernel
theorem dX4_fetches_32 : decode cX4_fetches 32 = .ok (.iconst 5, 1) := by decide +kernel
theorem dX4_fetches_33 : decode cX4_fetches 33 = .ok (.iaload, 1) := by decide +kernel
theorem dX4_fetches_34 : decode cX4_fetches 34 = .ok (.invokevirtual 115, 3) := by decide +kernel
theorem dX4_fetches_37 : decode cX4_fetches 37 = .ok (.istore_n 3, 1) := by decide +kernel
theorem dX4_fetches_38 : decode cX4_fetches 38 = .ok (.aload_n 0, 1) := by decide +kernel
theorem dX4_fetches_39 : decode cX4_fetches 39 = .ok (.getfield 7, 3) := by decide +kernel
theorem dX4_fetches_42 : decode cX4_fetches 42 = .ok (.bipush 10, 2) := by decide +kernel
theorem dX4_fetches_44 : decode cX4_fetches 44 = .ok (.dup2, 1) := by decide +kernel
theorem dX4_fetches_45 : decode cX4_fetches 45 = .ok (.iaload, 1) := by decide +kernel
theorem dX4_fetches_46 : decode cX4_fetches 46 = .ok (.iload_n 3, 1) := by decide +kernel
theorem dX4_fetches_47 : decode cX4_fetches 47 = .ok (.iadd, 1) := by decide +kernel
theorem dX4_fetches_48 : decode cX4_fetches 48 = .ok (.iastore, 1) := by decide +kernel
theorem dX4_fetches_49 : decode cX4_fetches 49 = .ok (.aload_n 0, 1) := by decide +kernel
theorem dX4_fetches_50 : decode cX4_fetches 50 = .ok (.getfield 7, 3) := by decide +kernel
theorem dX4_fetches_53 : decode cX4_fetches 53 = .ok (.bipush 8, 2) := by decide +kernel
theorem dX4_fetches_55 : decode cX4_fetches 55 = .ok (.dup2, 1) := by decide +kernel
theorem dX4_fetches_56 : decode cX4_fetches 56 = .ok (.iaload, 1) := by decide +kernel
theorem dX4_fetches_57 : decode cX4_fetches 57 = .ok (.iconst 1, 1) := by decide +kernel
theorem dX4_fetches_58 : decode cX4_fetches 58 = .ok (.iadd, 1) := by decide +kernel
theorem dX4_fetches_59 : decode cX4_fetches 59 = .ok (.iastore, 1) := by decide +kernel
theorem dX4_fetches_60 : decode cX4_fetches 60 = .ok (.aload_n 0, 1) := by decide +kernel
theorem dX4_fetches_61 : decode cX4_fetches 61 = .ok (.aload_n 0, 1) := by decide +kernel
theorem dX4_fetches_62 : decode cX4_fetches 62 = .ok (.iload_n 2, 1) := by decide +kernel
theorem dX4_fetches_63 : decode cX4_fetches 63 = .ok (.iconst 0, 1) := by decide +kernel
theorem dX4_fetches_64 : decode cX4_fetches 64 = .ok (.invokevirtual 58, 3) := by decide +kernel
theorem dX4_fetches_67 : decode cX4_fetches 67 = .ok (.iconst 1, 1) := by decide +kernel
theorem dX4_fetches_68 : decode cX4_fetches 68 = .ok (.isub, 1) := by decide +kernel
theorem dX4_fetches_69 : decode cX4_fetches 69 = .ok (.iconst 2, 1) := by decide +kernel
theorem dX4_fetches_70 : decode cX4_fetches 70 = .ok (.iconst 1, 1) := by decide +kernel
theorem dX4_fetches_71 : decode cX4_fetches 71 = .ok (.invokevirtual 118, 3) := by decide +kernel
theorem dX4_fetches_74 : decode cX4_fetches 74 = .ok (.aload_n 0, 1) := by decide +kernel
theorem dX4_fetches_75 : decode cX4_fetches 75 = .ok (.iload_n 2, 1) := by decide +kernel
theorem dX4_fetches_76 : decode cX4_fetches 76 = .ok (.invokevirtual 122, 3) := by decide +kernel
theorem dX4_fetches_79 : decode cX4_fetches 79 = .ok (.iload_n 3, 1) := by decide +kernel
theorem dX4_fetches_80 : decode cX4_fetches 80 = .ok (.ireturn, 1) := by decide +kernel
set_option maxRecDepth 20000 in
theorem ggX4_fetch_X4_whyNotFetch : GoodIn wsX4_fetch wsX4_whyNotFetch := goodIn_r _ [5, 6, 7, 4, 8, 9, 10, 11, 12, 13, 14, 15, 16, 17, 18, 19, 60, 61, 62, 63, 64, 65, 66, 67, 68, 69, 70, 71, 72, 73] (by decide +kernel) (by decide +kernel)
set_option maxRecDepth 20000 in
theorem gX4_fetch_X4_whyNotFetch : GoodIn wsX4_fetch (wsV RX4 126 RX4 yX4_whyNotFetch wsX4_whyNotFetch) := goodIn_app (goodIn_of _ (by decide +kernel)) ggX4_fetch_X4_whyNotFetch
set_option maxRecDepth 20000 in
theorem ggX4_fetch_X4_record : GoodIn wsX4_fetch wsX4_record := goodIn_r _ [23, 24, 25, 13, 60, 61, 62, 63, 64, 65, 66, 67, 68, 69, 70, 71, 72, 73] (by decide +kernel) (by decide +kernel)
set_option maxRecDepth 20000 in
theorem gX4_fetch_X4_record : GoodIn wsX4_fetch (wsV RX4 47 RX4 yX4_record wsX4_record) := goodIn_app (goodIn_of _ (by decide +kernel)) ggX4_fetch_X4_record
set_option maxRecDepth 20000 in
theorem ggX4_fetch_X4_fetches : GoodIn wsX4_fetch wsX4_fetches := goodIn_r _ [29, 13, 30, 31, 32, 4, 33, 34, 35, 36, 6, 7, 8, 37, 38, 39, 40, 41, 42, 43, 44, 45, 46, 47, 48, 49, 50, 51, 52, 53, 54, 55, 56, 57, 58, 59, 60, 61, 62, 63, 64, 65, 66, 67, 68, 69, 70, 71, 72, 73] (by decide +kernel) (by decide +kernel)
set_option maxRecDepth 20000 in
theorem gX4_fetch_X4_fetches : GoodIn wsX4_fetch (wsV RX4 129 RX4 yX4_fetches wsX4_fetches) := goodIn_app (goodIn_of _ (by decide +kernel)) ggX4_fetch_X4_fetches
theorem dX4_fetch_0 : decode cX4_fetch 0 = .ok (.aload_n 0, 1) := by decide +kernel
theorem dX4_fetch_1 : decode cX4_fetch 1 = .ok (.iload_n 1, 1) := by decide +kernel
theorem dX4_fetch_2 : decode cX4_fetch 2 = .ok (.invokevirtual 126, 3) := by decide +kernel
theorem dX4_fetch_5 : decode cX4_fetch 5 = .ok (.istore_n 2, 1) := by decide +kernel
theorem dX4_fetch_6 : decode cX4_fetch 6 = .ok (.iload_n 2, 1) := by decide +kernel
theorem dX4_fetch_7 : decode cX4_fetch 7 = .ok (.ifCond .ge 5, 3) := by decide +kernel
theorem dX4_fetch_10 : decode cX4_fetch 10 = .ok (.iload_n 2, 1) := by decide +kernel
theorem dX4_fetch_11 : decode cX4_fetch 11 = .ok (.ireturn, 1) := by decide +kernel
theorem dX4_fetch_12 : decode cX4_fetch 12 = .ok (.aload_n 0, 1) := by decide +kernel
theorem dX4_fetch_13 : decode cX4_fetch 13 = .ok (.invokevirtual 47, 3) := by decide +kernel
theorem dX4_fetch_16 : decode cX4_fetch 16 = .ok (.aload_n 0, 1) := by decide +kernel
theorem dX4_fetch_17 : decode cX4_fetch 17 = .ok (.iload_n 1, 1) := by decide +kernel
theorem dX4_fetch_18 : decode cX4_fetch 18 = .ok (.invokevirtual 129, 3) := by decide +kernel
theorem dX4_fetch_21 : decode cX4_fetch 21 = .ok (.ireturn, 1) := by decide +kernel
set_option maxRecDepth 20000 in
theorem ggX4_whyNotRefuse_X4_placeBy : GoodIn wsX4_whyNotRefuse wsX4_placeBy := goodIn_r _ [5, 6, 7, 4, 8, 9, 10, 11, 12, 13, 14, 15, 16, 17, 18, 19, 20, 21, 22, 23, 42, 43, 44, 45, 46, 47, 48, 49, 50, 51, 52, 53, 54, 55] (by decide +kernel) (by decide +kernel)
set_option maxRecDepth 20000 in
theorem gX4_whyNotRefuse_X4_placeBy : GoodIn wsX4_whyNotRefuse (wsV RX4 112 RX4 yX4_placeBy wsX4_placeBy) := goodIn_app (goodIn_of _ (by decide +kernel)) ggX4_whyNotRefuse_X4_placeBy
set_option maxRecDepth 20000 in
theorem ggX4_whyNotRefuse_X4_refuseCode : GoodIn wsX4_whyNotRefuse wsX4_refuseCode := goodIn_r _ [27, 6, 7, 4, 8, 9, 10, 11, 12, 13, 14, 28, 29, 30, 31, 23, 32, 33, 34, 35, 36, 37, 42, 43, 44, 45, 46, 47, 48, 49, 50, 51, 52, 53, 54, 55] (by decide +kernel) (by decide +kernel)
set_option maxRecDepth 20000 in
theorem gX4_whyNotRefuse_X4_refuseCode : GoodIn wsX4_whyNotRefuse (wsV RX4 132 RX4 yX4_refuseCode wsX4_refuseCode) := goodIn_app (goodIn_of _ (by decide +kernel)) ggX4_whyNotRefuse_X4_refuseCode
set_option maxRecDepth 20000 in
theorem ggX4_whyNotRefuse_X4_at : GoodIn wsX4_whyNotRefuse wsX4_at := goodIn_r _ [22, 23, 42, 43, 44, 45, 46, 47, 48, 49, 50, 51, 52, 53, 54, 55] (by decide +kernel) (by decide +kernel)
set_option maxRecDepth 20000 in
theorem gX4_whyNotRefuse_X4_at : GoodIn wsX4_whyNotRefuse (wsV RX4 58 RX4 yX4_at wsX4_at) := goodIn_app (goodIn_of _ (by decide +kernel)) ggX4_whyNotRefuse_X4_at
set_option maxRecDepth 20000 in
theorem ggX4_whyNotRefuse_X4_ofSender : GoodIn wsX4_whyNotRefuse wsX4_ofSender := goodIn_r _ [41, 23, 42, 43, 44, 45, 46, 47, 48, 49, 50, 51, 52, 53, 54, 55] (by decide +kernel) (by decide +kernel)
set_option maxRecDepth 20000 in
theorem gX4_whyNotRefuse_X4_ofSender : GoodIn wsX4_whyNotRefuse (wsV RX4 135 RX4 yX4_ofSender wsX4_ofSender) := goodIn_app (goodIn_of _ (by decide +kernel)) ggX4_whyNotRefuse_X4_ofSender
set_option maxRecDepth 20000 in
theorem ggX4_whyNotRefuse_X4_refuseBy : GoodIn wsX4_whyNotRefuse wsX4_refuseBy := goodIn_r _ [35, 36, 37, 42, 43, 44, 45, 46, 47, 48, 49, 50, 51, 52, 53, 54, 55] (by decide +kernel) (by decide +kernel)
set_option maxRecDepth 20000 in
theorem gX4_whyNotRefuse_X4_refuseBy : GoodIn wsX4_whyNotRefuse (wsV RX4 82 RX4 yX4_refuseBy wsX4_refuseBy) := goodIn_app (goodIn_of _ (by decide +kernel)) ggX4_whyNotRefuse_X4_refuseBy
theorem dX4_whyNotRefuse_0 : decode cX4_whyNotRefuse 0 = .ok (.aload_n 0, 1) := by decide +kernel
theorem dX4_whyNotRefuse_1 : decode cX4_whyNotRefuse 1 = .ok (.iload_n 1, 1) := by decide +kernel
theorem dX4_whyNotRefuse_2 : decode cX4_whyNotRefuse 2 = .ok (.invokevirtual 112, 3) := by decide +kernel
theorem dX4_whyNotRefuse_5 : decode cX4_whyNotRefuse 5 = .ok (.istore_n 2, 1) := by decide +kernel
theorem dX4_whyNotRefuse_6 : decode cX4_whyNotRefuse 6 = .ok (.iload_n 2, 1) := by decide +kernel
theorem dX4_whyNotRefuse_7 : decode cX4_whyNotRefuse 7 = .ok (.bipush (-6), 2) := by decide +kernel
theorem dX4_whyNotRefuse_9 : decode cX4_whyNotRefuse 9 = .ok (.if_icmp .ne 9, 3) := by decide +kernel
theorem dX4_whyNotRefuse_12 : decode cX4_whyNotRefuse 12 = .ok (.aload_n 0, 1) := by decide +kernel
theorem dX4_whyNotRefuse_13 : decode cX4_whyNotRefuse 13 = .ok (.iload_n 1, 1) := by decide +kernel
theorem dX4_whyNotRefuse_14 : decode cX4_whyNotRefuse 14 = .ok (.invokevirtual 132, 3) := by decide +kernel
theorem dX4_whyNotRefuse_17 : decode cX4_whyNotRefuse 17 = .ok (.ireturn, 1) := by decide +kernel
theorem dX4_whyNotRefuse_18 : decode cX4_whyNotRefuse 18 = .ok (.aload_n 0, 1) := by decide +kernel
theorem dX4_whyNotRefuse_19 : decode cX4_whyNotRefuse 19 = .ok (.aload_n 0, 1) := by decide +kernel
theorem dX4_whyNotRefuse_20 : decode cX4_whyNotRefuse 20 = .ok (.iload_n 2, 1) := by decide +kernel
theorem dX4_whyNotRefuse_21 : decode cX4_whyNotRefuse 21 = .ok (.iconst 0, 1) := by decide +kernel
theorem dX4_whyNotRefuse_22 : decode cX4_whyNotRefuse 22 = .ok (.invokevirtual 58, 3) := by decide +kernel
theorem dX4_whyNotRefuse_25 : decode cX4_whyNotRefuse 25 = .ok (.iconst 1, 1) := by decide +kernel
theorem dX4_whyNotRefuse_26 : decode cX4_whyNotRefuse 26 = .ok (.isub, 1) := by decide +kernel
theorem dX4_whyNotRefuse_27 : decode cX4_whyNotRefuse 27 = .ok (.iconst 0, 1) := by decide +kernel
theorem dX4_whyNotRefuse_28 : decode cX4_whyNotRefuse 28 = .ok (.invokevirtual 135, 3) := by decide +kernel
theorem dX4_whyNotRefuse_31 : decode cX4_whyNotRefuse 31 = .ok (.bipush 9, 2) := by decide +kernel
theorem dX4_whyNotRefuse_33 : decode cX4_whyNotRefuse 33 = .ok (.if_icmp .ne 15, 3) := by decide +kernel
theorem dX4_whyNotRefuse_36 : decode cX4_whyNotRefuse 36 = .ok (.aload_n 0, 1) := by decide +kernel
theorem dX4_whyNotRefuse_37 : decode cX4_whyNotRefuse 37 = .ok (.iconst 3, 1) := by decide +kernel
theorem dX4_whyNotRefuse_38 : decode cX4_whyNotRefuse 38 = .ok (.bipush (-6), 2) := by decide +kernel
theorem dX4_whyNotRefuse_40 : decode cX4_whyNotRefuse 40 = .ok (.bipush (-3), 2) := by decide +kernel
theorem dX4_whyNotRefuse_42 : decode cX4_whyNotRefuse 42 = .ok (.invokevirtual 82, 3) := by decide +kernel
theorem dX4_whyNotRefuse_45 : decode cX4_whyNotRefuse 45 = .ok (.goto 4, 3) := by decide +kernel
theorem dX4_whyNotRefuse_48 : decode cX4_whyNotRefuse 48 = .ok (.iconst 0, 1) := by decide +kernel
theorem dX4_whyNotRefuse_49 : decode cX4_whyNotRefuse 49 = .ok (.ireturn, 1) := by decide +kernel
set_option maxRecDepth 20000 in
theorem ggX4_goesBack_X4_at : GoodIn wsX4_goesBack wsX4_at := goodIn_r _ [5, 6, 19, 20, 21, 22, 23, 24, 25, 26, 27, 28, 29, 30, 31, 32] (by decide +kernel) (by decide +kernel)
set_option maxRecDepth 20000 in
theorem gX4_goesBack_X4_at : GoodIn wsX4_goesBack (wsV RX4 58 RX4 yX4_at wsX4_at) := goodIn_app (goodIn_of _ (by decide +kernel)) ggX4_goesBack_X4_at
set_option maxRecDepth 20000 in
theorem ggX4_goesBack_X4_count : GoodIn wsX4_goesBack wsX4_count := goodIn_r _ [10, 6, 19, 20, 21, 22, 23, 24, 25, 26, 27, 28, 29, 30, 31, 32] (by decide +kernel) (by decide +kernel)
set_option maxRecDepth 20000 in
theorem gX4_goesBack_X4_count : GoodIn wsX4_goesBack (wsV RX4 118 RX4 yX4_count wsX4_count) := goodIn_app (goodIn_of _ (by decide +kernel)) ggX4_goesBack_X4_count
set_option maxRecDepth 20000 in
theorem ggX4_goesBack_X4_leave : GoodIn wsX4_goesBack wsX4_leave := goodIn_r _ [14, 6, 1, 2, 3, 4, 5, 19, 20, 21, 22, 23, 24, 25, 26, 27, 28, 29, 30, 31, 32] (by decide +kernel) (by decide +kernel)
set_option maxRecDepth 20000 in
theorem gX4_goesBack_X4_leave : GoodIn wsX4_goesBack (wsV RX4 122 RX4 yX4_leave wsX4_leave) := goodIn_app (goodIn_of _ (by decide +kernel)) ggX4_goesBack_X4_leave
set_option maxRecDepth 20000 in
theorem ggX4_goesBack_X4_ofSender : GoodIn wsX4_goesBack wsX4_ofSender := goodIn_r _ [18, 6, 19, 20, 21, 22, 23, 24, 25, 26, 27, 28, 29, 30, 31, 32] (by decide +kernel) (by decide +kernel)
set_option maxRecDepth 20000 in
theorem gX4_goesBack_X4_ofSender : GoodIn wsX4_goesBack (wsV RX4 135 RX4 yX4_ofSender wsX4_ofSender) := goodIn_app (goodIn_of _ (by decide +kernel)) ggX4_goesBack_X4_ofSender
theorem dX4_goesBack_0 : decode cX4_goesBack 0 = .ok (.aload_n 0, 1) := by decide +kernel
theorem dX4_goesBack_1 : decode cX4_goesBack 1 = .ok (.iload_n 1, 1) := by decide +kernel
theorem dX4_goesBack_2 : decode cX4_goesBack 2 = .ok (.iconst 0, 1) := by decide +kernel
theorem dX4_goesBack_3 : decode cX4_goesBack 3 = .ok (.invokevirtual 58, 3) := by decide +kernel
theorem dX4_goesBack_6 : decode cX4_goesBack 6 = .ok (.iconst 1, 1) := by decide +kernel
theorem dX4_goesBack_7 : decode cX4_goesBack 7 = .ok (.isub, 1) := by decide +kernel
theorem dX4_goesBack_8 : decode cX4_goesBack 8 = .ok (.istore_n 2, 1) := by decide +kernel
theorem dX4_goesBack_9 : decode cX4_goesBack 9 = .ok (.aload_n 0, 1) := by decide +kernel
theorem dX4_goesBack_10 : decode cX4_goesBack 10 = .ok (.iload_n 2, 1) := by decide +kernel
theorem dX4_goesBack_11 : decode cX4_goesBack 11 = .ok (.iconst 0, 1) := by decide +kernel
theorem dX4_goesBack_12 : decode cX4_goesBack 12 = .ok (.iconst 1, 1) := by decide +kernel
theorem dX4_goesBack_13 : decode cX4_goesBack 13 = .ok (.invokevirtual 118, 3) := by decide +kernel
theorem dX4_goesBack_16 : decode cX4_goesBack 16 = .ok (.aload_n 0, 1) := by decide +kernel
theorem dX4_goesBack_17 : decode cX4_goesBack 17 = .ok (.iload_n 1, 1) := by decide +kernel
theorem dX4_goesBack_18 : decode cX4_goesBack 18 = .ok (.invokevirtual 122, 3) := by decide +kernel
theorem dX4_goesBack_21 : decode cX4_goesBack 21 = .ok (.aload_n 0, 1) := by decide +kernel
theorem dX4_goesBack_22 : decode cX4_goesBack 22 = .ok (.iload_n 2, 1) := by decide +kernel
theorem dX4_goesBack_23 : decode cX4_goesBack 23 = .ok (.iconst 0, 1) := by decide +kernel
theorem dX4_goesBack_24 : decode cX4_goesBack 24 = .ok (.invokevirtual 135, 3) := by decide +kernel
theorem dX4_goesBack_27 : decode cX4_goesBack 27 = .ok (.ireturn, 1) := by decide +kernel
set_option maxRecDepth 20000 in
theorem ggX4_refuse_X4_whyNotRefuse : GoodIn wsX4_refuse wsX4_whyNotRefuse := goodIn_r _ [5, 6, 7, 8, 4, 9, 10, 11, 12, 13, 14, 15, 16, 17, 18, 19, 20, 21, 22, 23, 24, 25, 26, 27, 28, 29, 30, 31, 32, 33, 34, 35, 36, 37, 38, 39, 40, 41, 42, 43, 44, 45, 64, 65, 66, 67, 68, 69, 70, 71, 72, 73, 74, 75, 76, 77] (by decide +kernel) (by decide +kernel)
set_option maxRecDepth 20000 in
theorem gX4_refuse_X4_whyNotRefuse : GoodIn wsX4_refuse (wsV RX4 138 RX4 yX4_whyNotRefuse wsX4_whyNotRefuse) := goodIn_app (goodIn_of _ (by decide +kernel)) ggX4_refuse_X4_whyNotRefuse
set_option maxRecDepth 20000 in
theorem ggX4_refuse_X4_record : GoodIn wsX4_refuse wsX4_record := goodIn_r _ [49, 50, 51, 27, 64, 65, 66, 67, 68, 69, 70, 71, 72, 73, 74, 75, 76, 77] (by decide +kernel) (by decide +kernel)
set_option maxRecDepth 20000 in
theorem gX4_refuse_X4_record : GoodIn wsX4_refuse (wsV RX4 47 RX4 yX4_record wsX4_record) := goodIn_app (goodIn_of _ (by decide +kernel)) ggX4_refuse_X4_record
set_option maxRecDepth 20000 in
theorem ggX4_refuse_X4_placeBy : GoodIn wsX4_refuse wsX4_placeBy := goodIn_r _ [9, 10, 11, 4, 12, 13, 14, 15, 16, 17, 18, 19, 20, 21, 22, 23, 24, 25, 26, 27, 64, 65, 66, 67, 68, 69, 70, 71, 72, 73, 74, 75, 76, 77] (by decide +kernel) (by decide +kernel)
set_option maxRecDepth 20000 in
theorem gX4_refuse_X4_placeBy : GoodIn wsX4_refuse (wsV RX4 112 RX4 yX4_placeBy wsX4_placeBy) := goodIn_app (goodIn_of _ (by decide +kernel)) ggX4_refuse_X4_placeBy
set_option maxRecDepth 20000 in
theorem ggX4_refuse_X4_goesBack : GoodIn wsX4_refuse wsX4_goesBack := goodIn_r _ [55, 23, 24, 25, 4, 26, 27, 56, 57, 58, 59, 60, 61, 62, 63, 42, 43, 44, 45, 64, 65, 66, 67, 68, 69, 70, 71, 72, 73, 74, 75, 76, 77] (by decide +kernel) (by decide +kernel)
set_option maxRecDepth 20000 in
theorem gX4_refuse_X4_goesBack : GoodIn wsX4_refuse (wsV RX4 141 RX4 yX4_goesBack wsX4_goesBack) := goodIn_app (goodIn_of _ (by decide +kernel)) ggX4_refuse_X4_goesBack
theorem dX4_refuse_0 : decode cX4_refuse 0 = .ok (.aload_n 0, 1) := by decide +kernel
theorem dX4_refuse_1 : decode cX4_refuse 1 = .ok (.iload_n 1, 1) := by decide +kernel
theorem dX4_refuse_2 : decode cX4_refuse 2 = .ok (.invokevirtual 138, 3) := by decide +kernel
theorem dX4_refuse_5 : decode cX4_refuse 5 = .ok (.istore_n 2, 1) := by decide +kernel
theorem dX4_refuse_6 : decode cX4_refuse 6 = .ok (.iload_n 2, 1) := by decide +kernel
theorem dX4_refuse_7 : decode cX4_refuse 7 = .ok (.ifCond .ge 5, 3) := by decide +kernel
theorem dX4_refuse_10 : decode cX4_refuse 10 = .ok (.iload_n 2, 1) := by decide +kernel
theorem dX4_refuse_11 : decode cX4_refuse 11 = .ok (.ireturn, 1) := by decide +kernel
theorem dX4_refuse_12 : decode cX4_refuse 12 = .ok (.aload_n 0, 1) := by decide +kernel
theorem dX4_refuse_13 : decode cX4_refuse 13 = .ok (.invokevirtual 47, 3) := by decide +kernel
theorem dX4_refuse_16 : decode cX4_refuse 16 = .ok (.aload_n 0, 1) := by decide +kernel
theorem dX4_refuse_17 : decode cX4_refuse 17 = .ok (.aload_n 0, 1) := by decide +kernel
theorem dX4_refuse_18 : decode cX4_refuse 18 = .ok (.iload_n 1, 1) := by decide +kernel
theorem dX4_refuse_19 : decode cX4_refuse 19 = .ok (.invokevirtual 112, 3) := by decide +kernel
theorem dX4_refuse_22 : decode cX4_refuse 22 = .ok (.invokevirtual 141, 3) := by decide +kernel
theorem dX4_refuse_25 : decode cX4_refuse 25 = .ok (.ireturn, 1) := by decide +kernel
set_option maxRecDepth 20000 in
theorem ggX4_whyNotMove_X4_placeBy : GoodIn wsX4_whyNotMove wsX4_placeBy := goodIn_r _ [5, 6, 7, 4, 8, 9, 10, 11, 12, 13, 14, 15, 16, 17, 18, 19, 20, 21, 22, 23, 53, 54, 55, 56, 57, 58, 59, 60, 61, 62, 63, 64, 65, 66] (by decide +kernel) (by decide +kernel)
set_option maxRecDepth 20000 in
theorem gX4_whyNotMove_X4_placeBy : GoodIn wsX4_whyNotMove (wsV RX4 112 RX4 yX4_placeBy wsX4_placeBy) := goodIn_app (goodIn_of _ (by decide +kernel)) ggX4_whyNotMove_X4_placeBy
set_option maxRecDepth 20000 in
theorem ggX4_whyNotMove_X4_refuseCode : GoodIn wsX4_whyNotMove wsX4_refuseCode := goodIn_r _ [27, 6, 7, 4, 8, 9, 10, 11, 12, 13, 14, 28, 29, 30, 31, 23, 32, 33, 34, 35, 36, 37, 53, 54, 55, 56, 57, 58, 59, 60, 61, 62, 63, 64, 65, 66] (by decide +kernel) (by decide +kernel)
set_option maxRecDepth 20000 in
theorem gX4_whyNotMove_X4_refuseCode : GoodIn wsX4_whyNotMove (wsV RX4 132 RX4 yX4_refuseCode wsX4_refuseCode) := goodIn_app (goodIn_of _ (by decide +kernel)) ggX4_whyNotMove_X4_refuseCode
set_option maxRecDepth 20000 in
theorem ggX4_whyNotMove_X4_in : GoodIn wsX4_whyNotMove wsX4_in := goodIn_r _ [11] (by decide +kernel) (by decide +kernel)
set_option maxRecDepth 20000 in
theorem gX4_whyNotMove_X4_in : GoodIn wsX4_whyNotMove (va_wsS RX4 50 yX4_in wsX4_in) := goodIn_app (goodIn_of _ (by decide +kernel)) ggX4_whyNotMove_X4_in
set_option maxRecDepth 20000 in
theorem ggX4_whyNotMove_X4_at : GoodIn wsX4_whyNotMove wsX4_at := goodIn_r _ [22, 23, 53, 54, 55, 56, 57, 58, 59, 60, 61, 62, 63, 64, 65, 66] (by decide +kernel) (by decide +kernel)
set_option maxRecDepth 20000 in
theorem gX4_whyNotMove_X4_at : GoodIn wsX4_whyNotMove (wsV RX4 58 RX4 yX4_at wsX4_at) := goodIn_app (goodIn_of _ (by decide +kernel)) ggX4_whyNotMove_X4_at
set_option maxRecDepth 20000 in
theorem ggX4_whyNotMove_X4_firstPlace : GoodIn wsX4_whyNotMove wsX4_firstPlace := goodIn_r _ [41, 15, 16, 17, 4, 18, 19, 20, 21, 22, 23, 42, 43, 44, 45, 46, 47, 48, 28, 29, 30, 31, 53, 54, 55, 56, 57, 58, 59, 60, 61, 62, 63, 64, 65, 66] (by decide +kernel) (by decide +kernel)
set_option maxRecDepth 20000 in
theorem gX4_whyNotMove_X4_firstPlace : GoodIn wsX4_whyNotMove (wsV RX4 89 RX4 yX4_firstPlace wsX4_firstPlace) := goodIn_app (goodIn_of _ (by decide +kernel)) ggX4_whyNotMove_X4_firstPlace
set_option maxRecDepth 20000 in
theorem ggX4_whyNotMove_X4_refusePlace : GoodIn wsX4_whyNotMove wsX4_refusePlace := goodIn_r _ [52, 15, 16, 17, 4, 18, 19, 20, 21, 22, 23, 32, 33, 34, 35, 36, 37, 53, 54, 55, 56, 57, 58, 59, 60, 61, 62, 63, 64, 65, 66] (by decide +kernel) (by decide +kernel)
set_option maxRecDepth 20000 in
theorem gX4_whyNotMove_X4_refusePlace : GoodIn wsX4_whyNotMove (wsV RX4 92 RX4 yX4_refusePlace wsX4_refusePlace) := goodIn_app (goodIn_of _ (by decide +kernel)) ggX4_whyNotMove_X4_refusePlace
theorem dX4_whyNotMove_0 : decode cX4_whyNotMove 0 = .ok (.aload_n 0, 1) := by decide +kernel
theorem dX4_whyNotMove_1 : decode cX4_whyNotMove 1 = .ok (.iload_n 1, 1) := by decide +kernel
theorem dX4_whyNotMove_2 : decode cX4_whyNotMove 2 = .ok (.invokevirtual 112, 3) := by decide +kernel
theorem dX4_whyNotMove_5 : decode cX4_whyNotMove 5 = .ok (.istore_n 3, 1) := by decide +kernel
theorem dX4_whyNotMove_6 : decode cX4_whyNotMove 6 = .ok (.iload_n 3, 1) := by decide +kernel
theorem dX4_whyNotMove_7 : decode cX4_whyNotMove 7 = .ok (.bipush (-6), 2) := by decide +kernel
theorem dX4_whyNotMove_9 : decode cX4_whyNotMove 9 = .ok (.if_icmp .ne 9, 3) := by decide +kernel
theorem dX4_whyNotMove_12 : decode cX4_whyNotMove 12 = .ok (.aload_n 0, 1) := by decide +kernel
theorem dX4_whyNotMove_13 : decode cX4_whyNotMove 13 = .ok (.iload_n 1, 1) := by decide +kernel
theorem dX4_whyNotMove_14 : decode cX4_whyNotMove 14 = .ok (.invokevirtual 132, 3) := by decide +kernel
theorem dX4_whyNotMove_17 : decode cX4_whyNotMove 17 = .ok (.ireturn, 1) := by decide +kernel
theorem dX4_whyNotMove_18 : decode cX4_whyNotMove 18 = .ok (.iload_n 2, 1) := by decide +kernel
theorem dX4_whyNotMove_19 : decode cX4_whyNotMove 19 = .ok (.iconst 0, 1) := by decide +kernel
theorem dX4_whyNotMove_20 : decode cX4_whyNotMove 20 = .ok (.iconst 5, 1) := by decide +kernel
theorem dX4_whyNotMove_21 : decode cX4_whyNotMove 21 = .ok (.invokestatic 50, 3) := by decide +kernel
theorem dX4_whyNotMove_24 : decode cX4_whyNotMove 24 = .ok (.ifCond .ne 5, 3) := by decide +kernel
theorem dX4_whyNotMove_27 : decode cX4_whyNotMove 27 = .ok (.iconst (-1), 1) := by decide +kernel
theorem dX4_whyNotMove_28 : decode cX4_whyNotMove 28 = .ok (.ireturn, 1) := by decide +kernel
theorem dX4_whyNotMove_29 : decode cX4_whyNotMove 29 = .ok (.iload_n 3, 1) := by decide +kernel
theorem dX4_whyNotMove_30 : decode cX4_whyNotMove 30 = .ok (.bipush 8, 2) := by decide +kernel
theorem dX4_whyNotMove_32 : decode cX4_whyNotMove 32 = .ok (.idiv, 1) := by decide +kernel
theorem dX4_whyNotMove_33 : decode cX4_whyNotMove 33 = .ok (.iload_n 2, 1) := by decide +kernel
theorem dX4_whyNotMove_34 : decode cX4_whyNotMove 34 = .ok (.if_icmp .eq 15, 3) := by decide +kernel
theorem dX4_whyNotMove_37 : decode cX4_whyNotMove 37 = .ok (.aload_n 0, 1) := by decide +kernel
theorem dX4_whyNotMove_38 : decode cX4_whyNotMove 38 = .ok (.iload_n 3, 1) := by decide +kernel
theorem dX4_whyNotMove_39 : decode cX4_whyNotMove 39 = .ok (.iconst 1, 1) := by decide +kernel
theorem dX4_whyNotMove_40 : decode cX4_whyNotMove 40 = .ok (.invokevirtual 58, 3) := by decide +kernel
theorem dX4_whyNotMove_43 : decode cX4_whyNotMove 43 = .ok (.iload_n 2, 1) := by decide +kernel
theorem dX4_whyNotMove_44 : decode cX4_whyNotMove 44 = .ok (.iconst 2, 1) := by decide +kernel
theorem dX4_whyNotMove_45 : decode cX4_whyNotMove 45 = .ok (.idiv, 1) := by decide +kernel
theorem dX4_whyNotMove_46 : decode cX4_whyNotMove 46 = .ok (.if_icmp .le 6, 3) := by decide +kernel
theorem dX4_whyNotMove_49 : decode cX4_whyNotMove 49 = .ok (.bipush (-2), 2) := by decide +kernel
theorem dX4_whyNotMove_51 : decode cX4_whyNotMove 51 = .ok (.ireturn, 1) := by decide +kernel
theorem dX4_whyNotMove_52 : decode cX4_whyNotMove 52 = .ok (.aload_n 0, 1) := by decide +kernel
theorem dX4_whyNotMove_53 : decode cX4_whyNotMove 53 = .ok (.iload_n 2, 1) := by decide +kernel
theorem dX4_whyNotMove_54 : decode cX4_whyNotMove 54 = .ok (.iload_n 2, 1) := by decide +kernel
theorem dX4_whyNotMove_55 : decode cX4_whyNotMove 55 = .ok (.invokevirtual 89, 3) := by decide +kernel
theorem dX4_whyNotMove_58 : decode cX4_whyNotMove 58 = .ok (.bipush (-6), 2) := by decide +kernel
theorem dX4_whyNotMove_60 : decode cX4_whyNotMove 60 = .ok (.if_icmp .ne 12, 3) := by decide +kernel
theorem dX4_whyNotMove_63 : decode cX4_whyNotMove 63 = .ok (.aload_n 0, 1) := by decide +kernel
theorem dX4_whyNotMove_64 : decode cX4_whyNotMove 64 = .ok (.iload_n 2, 1) := by decide +kernel
theorem dX4_whyNotMove_65 : decode cX4_whyNotMove 65 = .ok (.iload_n 2, 1) := by decide +kernel
theorem dX4_whyNotMove_66 : decode cX4_whyNotMove 66 = .ok (.invokevirtual 92, 3) := by decide +kernel
theorem dX4_whyNotMove_69 : decode cX4_whyNotMove 69 = .ok (.goto 4, 3) := by decide +kernel
theorem dX4_whyNotMove_72 : decode cX4_whyNotMove 72 = .ok (.iconst 0, 1) := by decide +kernel
theorem dX4_whyNotMove_73 : decode cX4_whyNotMove 73 = .ok (.ireturn, 1) := by decide +kernel
set_option maxRecDepth 20000 in
theorem ggX4_moves_X4_placeBy : GoodIn wsX4_moves wsX4_placeBy := goodIn_r _ [5, 6, 7, 4, 8, 9, 10, 11, 12, 13, 14, 15, 16, 17, 18, 19, 20, 21, 22, 23, 51, 52, 53, 54, 55, 56, 57, 58, 59, 60, 61, 62, 63, 64] (by decide +kernel) (by decide +kernel)
set_option maxRecDepth 20000 in
theorem gX4_moves_X4_placeBy : GoodIn wsX4_moves (wsV RX4 112 RX4 yX4_placeBy wsX4_placeBy) := goodIn_app (goodIn_of _ (by decide +kernel)) ggX4_moves_X4_placeBy
set_option maxRecDepth 20000 in
theorem ggX4_moves_X4_firstPlace : GoodIn wsX4_moves wsX4_firstPlace := goodIn_r _ [27, 15, 16, 17, 4, 18, 19, 20, 21, 22, 23, 28, 29, 30, 31, 32, 33, 34, 35, 36, 37, 38, 51, 52, 53, 54, 55, 56, 57, 58, 59, 60, 61, 62, 63, 64] (by decide +kernel) (by decide +kernel)
set_option maxRecDepth 20000 in
theorem gX4_moves_X4_firstPlace : GoodIn wsX4_moves (wsV RX4 89 RX4 yX4_firstPlace wsX4_firstPlace) := goodIn_app (goodIn_of _ (by decide +kernel)) ggX4_moves_X4_firstPlace
set_option maxRecDepth 20000 in
theorem ggX4_moves_X4_at : GoodIn wsX4_moves wsX4_at := goodIn_r _ [22, 23, 51, 52, 53, 54, 55, 56, 57, 58, 59, 60, 61, 62, 63, 64] (by decide +kernel) (by decide +kernel)
set_option maxRecDepth 20000 in
theorem gX4_moves_X4_at : GoodIn wsX4_moves (wsV RX4 58 RX4 yX4_at wsX4_at) := goodIn_app (goodIn_of _ (by decide +kernel)) ggX4_moves_X4_at
set_option maxRecDepth 20000 in
theorem ggX4_moves_X4_lay : GoodIn wsX4_moves wsX4_lay := goodIn_r _ [42, 23, 32, 33, 4, 34, 51, 52, 53, 54, 55, 56, 57, 58, 59, 60, 61, 62, 63, 64] (by decide +kernel) (by decide +kernel)
set_option maxRecDepth 20000 in
theorem gX4_moves_X4_lay : GoodIn wsX4_moves (wsV RX4 95 RX4 yX4_lay wsX4_lay) := goodIn_app (goodIn_of _ (by decide +kernel)) ggX4_moves_X4_lay
set_option maxRecDepth 20000 in
theorem ggX4_moves_X4_leave : GoodIn wsX4_moves wsX4_leave := goodIn_r _ [46, 23, 19, 20, 21, 4, 22, 51, 52, 53, 54, 55, 56, 57, 58, 59, 60, 61, 62, 63, 64] (by decide +kernel) (by decide +kernel)
set_option maxRecDepth 20000 in
theorem gX4_moves_X4_leave : GoodIn wsX4_moves (wsV RX4 122 RX4 yX4_leave wsX4_leave) := goodIn_app (goodIn_of _ (by decide +kernel)) ggX4_moves_X4_leave
set_option maxRecDepth 20000 in
theorem ggX4_moves_X4_codeOn : GoodIn wsX4_moves wsX4_codeOn := goodIn_r _ [50, 19, 20, 21, 4, 22, 23, 12, 13, 14, 51, 52, 53, 54, 55, 56, 57, 58, 59, 60, 61, 62, 63, 64] (by decide +kernel) (by decide +kernel)
set_option maxRecDepth 20000 in
theorem gX4_moves_X4_codeOn : GoodIn wsX4_moves (wsV RX4 99 RX4 yX4_codeOn wsX4_codeOn) := goodIn_app (goodIn_of _ (by decide +kernel)) ggX4_moves_X4_codeOn
theorem dX4_moves_0 : decode cX4_moves 0 = .ok (.aload_n 0, 1) := by decide +kernel
theorem dX4_moves_1 : decode cX4_moves 1 = .ok (.iload_n 1, 1) := by decide +kernel
theorem dX4_moves_2 : decode cX4_moves 2 = .ok (.invokevirtual 112, 3) := by decide +kernel
theorem dX4_moves_5 : decode cX4_moves 5 = .ok (.istore_n 3, 1) := by decide +kernel
theorem dX4_moves_6 : decode cX4_moves 6 = .ok (.aload_n 0, 1) := by decide +kernel
theorem dX4_moves_7 : decode cX4_moves 7 = .ok (.iload_n 2, 1) := by decide +kernel
theorem dX4_moves_8 : decode cX4_moves 8 = .ok (.iload_n 2, 1) := by decide +kernel
theorem dX4_moves_9 : decode cX4_moves 9 = .ok (.invokevirtual 89, 3) := by decide +kernel
theorem dX4_moves_12 : decode cX4_moves 12 = .ok (.istore 4, 2) := by decide +kernel
theorem dX4_moves_14 : decode cX4_moves 14 = .ok (.aload_n 0, 1) := by decide +kernel
theorem dX4_moves_15 : decode cX4_moves 15 = .ok (.iload 4, 2) := by decide +kernel
theorem dX4_moves_17 : decode cX4_moves 17 = .ok (.aload_n 0, 1) := by decide +kernel
theorem dX4_moves_18 : decode cX4_moves 18 = .ok (.iload_n 3, 1) := by decide +kernel
theorem dX4_moves_19 : decode cX4_moves 19 = .ok (.iconst 0, 1) := by decide +kernel
theorem dX4_moves_20 : decode cX4_moves 20 = .ok (.invokevirtual 58, 3) := by decide +kernel
theorem dX4_moves_23 : decode cX4_moves 23 = .ok (.iconst 1, 1) := by decide +kernel
theorem dX4_moves_24 : decode cX4_moves 24 = .ok (.isub, 1) := by decide +kernel
theorem dX4_moves_25 : decode cX4_moves 25 = .ok (.aload_n 0, 1) := by decide +kernel
theorem dX4_moves_26 : decode cX4_moves 26 = .ok (.iload_n 3, 1) := by decide +kernel
theorem dX4_moves_27 : decode cX4_moves 27 = .ok (.iconst 1, 1) := by decide +kernel
theorem dX4_moves_28 : decode cX4_moves 28 = .ok (.invokevirtual 58, 3) := by decide +kernel
theorem dX4_moves_31 : decode cX4_moves 31 = .ok (.aload_n 0, 1) := by decide +kernel
theorem dX4_moves_32 : decode cX4_moves 32 = .ok (.iload_n 3, 1) := by decide +kernel
theorem dX4_moves_33 : decode cX4_moves 33 = .ok (.iconst 2, 1) := by decide +kernel
theorem dX4_moves_34 : decode cX4_moves 34 = .ok (.invokevirtual 58, 3) := by decide +kernel
theorem dX4_moves_37 : decode cX4_moves 37 = .ok (.invokevirtual 95, 3) := by decide +kernel
theorem dX4_moves_40 : decode cX4_moves 40 = .ok (.aload_n 0, 1) := by decide +kernel
theorem dX4_moves_41 : decode cX4_moves 41 = .ok (.iload_n 3, 1) := by decide +kernel
theorem dX4_moves_42 : decode cX4_moves 42 = .ok (.invokevirtual 122, 3) := by decide +kernel
theorem dX4_moves_45 : decode cX4_moves 45 = .ok (.aload_n 0, 1) := by decide +kernel
theorem dX4_moves_46 : decode cX4_moves 46 = .ok (.iload 4, 2) := by decide +kernel
theorem dX4_moves_48 : decode cX4_moves 48 = .ok (.invokevirtual 99, 3) := by decide +kernel
theorem dX4_moves_51 : decode cX4_moves 51 = .ok (.ireturn, 1) := by decide +kernel
set_option maxRecDepth 20000 in
theorem ggX4_move_X4_whyNotMove : GoodIn wsX4_move wsX4_whyNotMove := goodIn_r _ [5, 6, 7, 8, 4, 9, 10, 11, 12, 13, 14, 15, 16, 17, 18, 19, 20, 21, 22, 23, 24, 25, 26, 27, 28, 29, 30, 31, 32, 33, 34, 35, 36, 37, 38, 39, 40, 41, 42, 43, 44, 45, 46, 47, 48, 49, 50, 51, 52, 53, 54, 55, 56, 79, 80, 81, 82, 83, 84, 85, 86, 87, 88, 89, 90, 91, 92] (by decide +kernel) (by decide +kernel)
set_option maxRecDepth 20000 in
theorem gX4_move_X4_whyNotMove : GoodIn wsX4_move (wsV RX4 144 RX4 yX4_whyNotMove wsX4_whyNotMove) := goodIn_app (goodIn_of _ (by decide +kernel)) ggX4_move_X4_whyNotMove
set_option maxRecDepth 20000 in
theorem ggX4_move_X4_record : GoodIn wsX4_move wsX4_record := goodIn_r _ [60, 61, 62, 27, 79, 80, 81, 82, 83, 84, 85, 86, 87, 88, 89, 90, 91, 92] (by decide +kernel) (by decide +kernel)
set_option maxRecDepth 20000 in
theorem gX4_move_X4_record : GoodIn wsX4_move (wsV RX4 47 RX4 yX4_record wsX4_record) := goodIn_app (goodIn_of _ (by decide +kernel)) ggX4_move_X4_record
set_option maxRecDepth 20000 in
theorem ggX4_move_X4_moves : GoodIn wsX4_move wsX4_moves := goodIn_r _ [66, 6, 7, 8, 4, 9, 10, 11, 12, 13, 14, 15, 16, 17, 18, 19, 20, 21, 22, 23, 24, 25, 26, 27, 42, 43, 44, 45, 46, 47, 48, 49, 50, 51, 52, 32, 33, 34, 35, 67, 68, 69, 70, 71, 72, 73, 74, 75, 76, 77, 78, 79, 80, 81, 82, 83, 84, 85, 86, 87, 88, 89, 90, 91, 92] (by decide +kernel) (by decide +kernel)
set_option maxRecDepth 20000 in
theorem gX4_move_X4_moves : GoodIn wsX4_move (wsV RX4 147 RX4 yX4_moves wsX4_moves) := goodIn_app (goodIn_of _ (by decide +kernel)) ggX4_move_X4_moves
theorem dX4_move_0 : decode cX4_move 0 = .ok (.aload_n 0, 1) := by decide +kernel
theorem dX4_move_1 : decode cX4_move 1 = .ok (.iload_n 1, 1) := by decide +kernel
theorem dX4_move_2 : decode cX4_move 2 = .ok (.iload_n 2, 1) := by decide +kernel
theorem dX4_move_3 : decode cX4_move 3 = .ok (.invokevirtual 144, 3) := by decide +kernel
theorem dX4_move_6 : decode cX4_move 6 = .ok (.istore_n 3, 1) := by decide +kernel
theorem dX4_move_7 : decode cX4_move 7 = .ok (.iload_n 3, 1) := by decide +kernel
theorem dX4_move_8 : decode cX4_move 8 = .ok (.ifCond .ge 5, 3) := by decide +kernel
theorem dX4_move_11 : decode cX4_move 11 = .ok (.iload_n 3, 1) := by decide +kernel
theorem dX4_move_12 : decode cX4_move 12 = .ok (.ireturn, 1) := by decide +kernel
theorem dX4_move_13 : decode cX4_move 13 = .ok (.aload_n 0, 1) := by decide +kernel
theorem dX4_move_14 : decode cX4_move 14 = .ok (.invokevirtual 47, 3) := by decide +kernel
theorem dX4_move_17 : decode cX4_move 17 = .ok (.aload_n 0, 1) := by decide +kernel
theorem dX4_move_18 : decode cX4_move 18 = .ok (.iload_n 1, 1) := by decide +kernel
theorem dX4_move_19 : decode cX4_move 19 = .ok (.iload_n 2, 1) := by decide +kernel
theorem dX4_move_20 : decode cX4_move 20 = .ok (.invokevirtual 147, 3) := by decide +kernel
theorem dX4_move_23 : decode cX4_move 23 = .ok (.ireturn, 1) := by decide +kernel
set_option maxRecDepth 20000 in
theorem ggX4_whyNotPass_X4_in : GoodIn wsX4_whyNotPass wsX4_in := goodIn_r _ [5] (by decide +kernel) (by decide +kernel)
set_option maxRecDepth 20000 in
theorem gX4_whyNotPass_X4_in : GoodIn wsX4_whyNotPass (va_wsS RX4 50 yX4_in wsX4_in) := goodIn_app (goodIn_of _ (by decide +kernel)) ggX4_whyNotPass_X4_in
theorem dX4_whyNotPass_0 : decode cX4_whyNotPass 0 = .ok (.iload_n 1, 1) := by decide +kernel
theorem dX4_whyNotPass_1 : decode cX4_whyNotPass 1 = .ok (.iconst 1, 1) := by decide +kernel
theorem dX4_whyNotPass_2 : decode cX4_whyNotPass 2 = .ok (.bipush 30, 2) := by decide +kernel
theorem dX4_whyNotPass_4 : decode cX4_whyNotPass 4 = .ok (.invokestatic 50, 3) := by decide +kernel
theorem dX4_whyNotPass_7 : decode cX4_whyNotPass 7 = .ok (.ifCond .ne 8, 3) := by decide +kernel
theorem dX4_whyNotPass_10 : decode cX4_whyNotPass 10 = .ok (.bipush (-2), 2) := by decide +kernel
theorem dX4_whyNotPass_12 : decode cX4_whyNotPass 12 = .ok (.goto 23, 3) := by decide +kernel
theorem dX4_whyNotPass_15 : decode cX4_whyNotPass 15 = .ok (.aload_n 0, 1) := by decide +kernel
theorem dX4_whyNotPass_16 : decode cX4_whyNotPass 16 = .ok (.getfield 7, 3) := by decide +kernel
theorem dX4_whyNotPass_19 : decode cX4_whyNotPass 19 = .ok (.iconst 5, 1) := by decide +kernel
theorem dX4_whyNotPass_20 : decode cX4_whyNotPass 20 = .ok (.iaload, 1) := by decide +kernel
theorem dX4_whyNotPass_21 : decode cX4_whyNotPass 21 = .ok (.iload_n 1, 1) := by decide +kernel
theorem dX4_whyNotPass_22 : decode cX4_whyNotPass 22 = .ok (.iadd, 1) := by decide +kernel
theorem dX4_whyNotPass_23 : decode cX4_whyNotPass 23 = .ok (.sipush 9999, 3) := by decide +kernel
theorem dX4_whyNotPass_26 : decode cX4_whyNotPass 26 = .ok (.if_icmp .le 8, 3) := by decide +kernel
theorem dX4_whyNotPass_29 : decode cX4_whyNotPass 29 = .ok (.bipush (-4), 2) := by decide +kernel
theorem dX4_whyNotPass_31 : decode cX4_whyNotPass 31 = .ok (.goto 4, 3) := by decide +kernel
theorem dX4_whyNotPass_34 : decode cX4_whyNotPass 34 = .ok (.iconst 0, 1) := by decide +kernel
theorem dX4_whyNotPass_35 : decode cX4_whyNotPass 35 = .ok (.ireturn, 1) := by decide +kernel
set_option maxRecDepth 20000 in
theorem ggX4_takes_X4_ofSender : GoodIn wsX4_takes wsX4_ofSender := goodIn_r _ [6, 1, 11, 12, 13, 14, 15, 16, 17, 18, 19, 20, 21, 22, 23, 24] (by decide +kernel) (by decide +kernel)
set_option maxRecDepth 20000 in
theorem gX4_takes_X4_ofSender : GoodIn wsX4_takes (wsV RX4 135 RX4 yX4_ofSender wsX4_ofSender) := goodIn_app (goodIn_of _ (by decide +kernel)) ggX4_takes_X4_ofSender
set_option maxRecDepth 20000 in
theorem ggX4_takes_X4_count : GoodIn wsX4_takes wsX4_count := goodIn_r _ [10, 1, 11, 12, 13, 14, 15, 16, 17, 18, 19, 20, 21, 22, 23, 24] (by decide +kernel) (by decide +kernel)
set_option maxRecDepth 20000 in
theorem gX4_takes_X4_count : GoodIn wsX4_takes (wsV RX4 118 RX4 yX4_count wsX4_count) := goodIn_app (goodIn_of _ (by decide +kernel)) ggX4_takes_X4_count
theorem dX4_takes_0 : decode cX4_takes 0 = .ok (.aload_n 0, 1) := by decide +kernel
theorem dX4_takes_1 : decode cX4_takes 1 = .ok (.iload_n 1, 1) := by decide +kernel
theorem dX4_takes_2 : decode cX4_takes 2 = .ok (.iconst 0, 1) := by decide +kernel
theorem dX4_takes_3 : decode cX4_takes 3 = .ok (.invokevirtual 135, 3) := by decide +kernel
theorem dX4_takes_6 : decode cX4_takes 6 = .ok (.istore_n 3, 1) := by decide +kernel
theorem dX4_takes_7 : decode cX4_takes 7 = .ok (.iload_n 2, 1) := by decide +kernel
theorem dX4_takes_8 : decode cX4_takes 8 = .ok (.aload_n 0, 1) := by decide +kernel
theorem dX4_takes_9 : decode cX4_takes 9 = .ok (.getfield 7, 3) := by decide +kernel
theorem dX4_takes_12 : decode cX4_takes 12 = .ok (.iconst 2, 1) := by decide +kernel
theorem dX4_takes_13 : decode cX4_takes 13 = .ok (.iaload, 1) := by decide +kernel
theorem dX4_takes_14 : decode cX4_takes 14 = .ok (.imul, 1) := by decide +kernel
theorem dX4_takes_15 : decode cX4_takes 15 = .ok (.iload_n 3, 1) := by decide +kernel
theorem dX4_takes_16 : decode cX4_takes 16 = .ok (.imul, 1) := by decide +kernel
theorem dX4_takes_17 : decode cX4_takes 17 = .ok (.istore 4, 2) := by decide +kernel
theorem dX4_takes_19 : decode cX4_takes 19 = .ok (.aload_n 0, 1) := by decide +kernel
theorem dX4_takes_20 : decode cX4_takes 20 = .ok (.iload_n 1, 1) := by decide +kernel
theorem dX4_takes_21 : decode cX4_takes 21 = .ok (.iconst 0, 1) := by decide +kernel
theorem dX4_takes_22 : decode cX4_takes 22 = .ok (.iload_n 3, 1) := by decide +kernel
theorem dX4_takes_23 : decode cX4_takes 23 = .ok (.ineg, 1) := by decide +kernel
theorem dX4_takes_24 : decode cX4_takes 24 = .ok (.invokevirtual 118, 3) := by decide +kernel
theorem dX4_takes_27 : decode cX4_takes 27 = .ok (.aload_n 0, 1) := by decide +kernel
theorem dX4_takes_28 : decode cX4_takes 28 = .ok (.iload_n 1, 1) := by decide +kernel
theorem dX4_takes_29 : decode cX4_takes 29 = .ok (.iconst 1, 1) := by decide +kernel
theorem dX4_takes_30 : decode cX4_takes 30 = .ok (.iload 4, 2) := by decide +kernel
theorem dX4_takes_32 : decode cX4_takes 32 = .ok (.invokevirtual 118, 3) := by decide +kernel
theorem dX4_takes_35 : decode cX4_takes 35 = .ok (.aload_n 0, 1) := by decide +kernel
theorem dX4_takes_36 : decode cX4_takes 36 = .ok (.iload_n 1, 1) := by decide +kernel
theorem dX4_takes_37 : decode cX4_takes 37 = .ok (.iconst 3, 1) := by decide +kernel
theorem dX4_takes_38 : decode cX4_takes 38 = .ok (.iload_n 3, 1) := by decide +kernel
theorem dX4_takes_39 : decode cX4_takes 39 = .ok (.invokevirtual 118, 3) := by decide +kernel
theorem dX4_takes_42 : decode cX4_takes 42 = .ok (.aload_n 0, 1) := by decide +kernel
theorem dX4_takes_43 : decode cX4_takes 43 = .ok (.getfield 7, 3) := by decide +kernel
theorem dX4_takes_46 : decode cX4_takes 46 = .ok (.bipush 9, 2) := by decide +kernel
theorem dX4_takes_48 : decode cX4_takes 48 = .ok (.dup2, 1) := by decide +kernel
theorem dX4_takes_49 : decode cX4_takes 49 = .ok (.iaload, 1) := by decide +kernel
theorem dX4_takes_50 : decode cX4_takes 50 = .ok (.iload_n 3, 1) := by decide +kernel
theorem dX4_takes_51 : decode cX4_takes 51 = .ok (.iadd, 1) := by decide +kernel
theorem dX4_takes_52 : decode cX4_takes 52 = .ok (.iastore, 1) := by decide +kernel
theorem dX4_takes_53 : decode cX4_takes 53 = .ok (.aload_n 0, 1) := by decide +kernel
theorem dX4_takes_54 : decode cX4_takes 54 = .ok (.getfield 7, 3) := by decide +kernel
theorem dX4_takes_57 : decode cX4_takes 57 = .ok (.bipush 11, 2) := by decide +kernel
theorem dX4_takes_59 : decode cX4_takes 59 = .ok (.dup2, 1) := by decide +kernel
theorem dX4_takes_60 : decode cX4_takes 60 = .ok (.iaload, 1) := by decide +kernel
theorem dX4_takes_61 : decode cX4_takes 61 = .ok (.iload 4, 2) := by decide +kernel
theorem dX4_takes_63 : decode cX4_takes 63 = .ok (.iadd, 1) := by decide +kernel
theorem dX4_takes_64 : decode cX4_takes 64 = .ok (.iastore, 1) := by decide +kernel
theorem dX4_takes_65 : decode cX4_takes 65 = .ok (.iload 4, 2) := by decide +kernel
theorem dX4_takes_67 : decode cX4_takes 67 = .ok (.ireturn, 1) := by decide +kernel
set_option maxRecDepth 20000 in
theorem ggX4_begins_X4_ofSender : GoodIn wsX4_begins wsX4_ofSender := goodIn_r _ [6, 1, 31, 32, 33, 34, 35, 36, 37, 38, 39, 40, 41, 42, 43, 44] (by decide +kernel) (by decide +kernel)
set_option maxRecDepth 20000 in
theorem gX4_begins_X4_ofSender : GoodIn wsX4_begins (wsV RX4 135 RX4 yX4_ofSender wsX4_ofSender) := goodIn_app (goodIn_of _ (by decide +kernel)) ggX4_begins_X4_ofSender
set_option maxRecDepth 20000 in
theorem ggX4_begins_X4_takes : GoodIn wsX4_begins wsX4_takes := goodIn_r _ [10, 1, 2, 3, 4, 5, 6, 11, 12, 13, 14, 31, 32, 33, 34, 35, 36, 37, 38, 39, 40, 41, 42, 43, 44] (by decide +kernel) (by decide +kernel)
set_option maxRecDepth 20000 in
theorem gX4_begins_X4_takes : GoodIn wsX4_begins (wsV RX4 150 RX4 yX4_takes wsX4_takes) := goodIn_app (goodIn_of _ (by decide +kernel)) ggX4_begins_X4_takes
set_option maxRecDepth 20000 in
theorem ggX4_begins_X4_isTaken : GoodIn wsX4_begins wsX4_isTaken := goodIn_r _ [18, 19, 20, 21, 5, 22, 1, 31, 32, 33, 34, 35, 36, 37, 38, 39, 40, 41, 42, 43, 44] (by decide +kernel) (by decide +kernel)
set_option maxRecDepth 20000 in
theorem gX4_begins_X4_isTaken : GoodIn wsX4_begins (wsV RX4 69 RX4 yX4_isTaken wsX4_isTaken) := goodIn_app (goodIn_of _ (by decide +kernel)) ggX4_begins_X4_isTaken
set_option maxRecDepth 20000 in
theorem ggX4_begins_X4_at : GoodIn wsX4_begins wsX4_at := goodIn_r _ [22, 1, 31, 32, 33, 34, 35, 36, 37, 38, 39, 40, 41, 42, 43, 44] (by decide +kernel) (by decide +kernel)
set_option maxRecDepth 20000 in
theorem gX4_begins_X4_at : GoodIn wsX4_begins (wsV RX4 58 RX4 yX4_at wsX4_at) := goodIn_app (goodIn_of _ (by decide +kernel)) ggX4_begins_X4_at
set_option maxRecDepth 20000 in
theorem ggX4_begins_X4_goesBack : GoodIn wsX4_begins wsX4_goesBack := goodIn_r _ [26, 19, 20, 21, 5, 22, 1, 11, 12, 13, 14, 27, 28, 29, 30, 2, 3, 4, 6, 31, 32, 33, 34, 35, 36, 37, 38, 39, 40, 41, 42, 43, 44] (by decide +kernel) (by decide +kernel)
set_option maxRecDepth 20000 in
theorem gX4_begins_X4_goesBack : GoodIn wsX4_begins (wsV RX4 141 RX4 yX4_goesBack wsX4_goesBack) := goodIn_app (goodIn_of _ (by decide +kernel)) ggX4_begins_X4_goesBack
theorem dX4_begins_0 : decode cX4_begins 0 = .ok (.aload_n 0, 1) := by decide +kernel
theorem dX4_begins_1 : decode cX4_begins 1 = .ok (.getfield 7, 3) := by decide +kernel
theorem dX4_begins_4 : decode cX4_begins 4 = .ok (.iconst 5, 1) := by decide +kernel
theorem dX4_begins_5 : decode cX4_begins 5 = .ok (.dup2, 1) := by decide +kernel
theorem dX4_begins_6 : decode cX4_begins 6 = .ok (.iaload, 1) := by decide +kernel
theorem dX4_begins_7 : decode cX4_begins 7 = .ok (.iconst 1, 1) := by decide +kernel
theorem dX4_begins_8 : decode cX4_begins 8 = .ok (.iadd, 1) := by decide +kernel
theorem dX4_begins_9 : decode cX4_begins 9 = .ok (.iastore, 1) := by decide +kernel
theorem dX4_begins_10 : decode cX4_begins 10 = .ok (.aload_n 0, 1) := by decide +kernel
theorem dX4_begins_11 : decode cX4_begins 11 = .ok (.getfield 7, 3) := by decide +kernel
theorem dX4_begins_14 : decode cX4_begins 14 = .ok (.bipush 6, 2) := by decide +kernel
theorem dX4_begins_16 : decode cX4_begins 16 = .ok (.iconst 0, 1) := by decide +kernel
theorem dX4_begins_17 : decode cX4_begins 17 = .ok (.iastore, 1) := by decide +kernel
theorem dX4_begins_18 : decode cX4_begins 18 = .ok (.iconst 0, 1) := by decide +kernel
theorem dX4_begins_19 : decode cX4_begins 19 = .ok (.istore_n 1, 1) := by decide +kernel
theorem dX4_begins_20 : decode cX4_begins 20 = .ok (.iload_n 1, 1) := by decide +kernel
theorem dX4_begins_21 : decode cX4_begins 21 = .ok (.bipush 10, 2) := by decide +kernel
theorem dX4_begins_23 : decode cX4_begins 23 = .ok (.if_icmp .ge 42, 3) := by decide +kernel
theorem dX4_begins_26 : decode cX4_begins 26 = .ok (.aload_n 0, 1) := by decide +kernel
theorem dX4_begins_27 : decode cX4_begins 27 = .ok (.getfield 7, 3) := by decide +kernel
theorem dX4_begins_30 : decode cX4_begins 30 = .ok (.iconst 5, 1) := by decide +kernel
theorem dX4_begins_31 : decode cX4_begins 31 = .ok (.iaload, 1) := by decide +kernel
theorem dX4_begins_32 : decode cX4_begins 32 = .ok (.iconst 3, 1) := by decide +kernel
theorem dX4_begins_33 : decode cX4_begins 33 = .ok (.irem, 1) := by decide +kernel
theorem dX4_begins_34 : decode cX4_begins 34 = .ok (.ifCond .ne 31, 3) := by decide +kernel
theorem dX4_begins_37 : decode cX4_begins 37 = .ok (.aload_n 0, 1) := by decide +kernel
theorem dX4_begins_38 : decode cX4_begins 38 = .ok (.iload_n 1, 1) := by decide +kernel
theorem dX4_begins_39 : decode cX4_begins 39 = .ok (.iconst 0, 1) := by decide +kernel
theorem dX4_begins_40 : decode cX4_begins 40 = .ok (.invokevirtual 135, 3) := by decide +kernel
theorem dX4_begins_43 : decode cX4_begins 43 = .ok (.aload_n 0, 1) := by decide +kernel
theorem dX4_begins_44 : decode cX4_begins 44 = .ok (.getfield 7, 3) := by decide +kernel
theorem dX4_begins_47 : decode cX4_begins 47 = .ok (.iconst 4, 1) := by decide +kernel
theorem dX4_begins_48 : decode cX4_begins 48 = .ok (.iaload, 1) := by decide +kernel
theorem dX4_begins_49 : decode cX4_begins 49 = .ok (.if_icmp .lt 10, 3) := by decide +kernel
theorem dX4_begins_52 : decode cX4_begins 52 = .ok (.aload_n 0, 1) := by decide +kernel
theorem dX4_begins_53 : decode cX4_begins 53 = .ok (.iload_n 1, 1) := by decide +kernel
theorem dX4_begins_54 : decode cX4_begins 54 = .ok (.iconst 4, 1) := by decide +kernel
theorem dX4_begins_55 : decode cX4_begins 55 = .ok (.invokevirtual 150, 3) := by decide +kernel
theorem dX4_begins_58 : decode cX4_begins 58 = .ok (.pop, 1) := by decide +kernel
theorem dX4_begins_59 : decode cX4_begins 59 = .ok (.iinc 1 1, 3) := by decide +kernel
theorem dX4_begins_62 : decode cX4_begins 62 = .ok (.goto (-42), 3) := by decide +kernel
theorem dX4_begins_65 : decode cX4_begins 65 = .ok (.iconst 0, 1) := by decide +kernel
theorem dX4_begins_66 : decode cX4_begins 66 = .ok (.istore_n 1, 1) := by decide +kernel
theorem dX4_begins_67 : decode cX4_begins 67 = .ok (.iconst 0, 1) := by decide +kernel
theorem dX4_begins_68 : decode cX4_begins 68 = .ok (.istore_n 2, 1) := by decide +kernel
theorem dX4_begins_69 : decode cX4_begins 69 = .ok (.iload_n 2, 1) := by decide +kernel
theorem dX4_begins_70 : decode cX4_begins 70 = .ok (.bipush 48, 2) := by decide +kernel
theorem dX4_begins_72 : decode cX4_begins 72 = .ok (.if_icmp .ge 66, 3) := by decide +kernel
theorem dX4_begins_75 : decode cX4_begins 75 = .ok (.aload_n 0, 1) := by decide +kernel
theorem dX4_begins_76 : decode cX4_begins 76 = .ok (.iload_n 2, 1) := by decide +kernel
theorem dX4_begins_77 : decode cX4_begins 77 = .ok (.invokevirtual 69, 3) := by decide +kernel
theorem dX4_begins_80 : decode cX4_begins 80 = .ok (.ifCond .eq 52, 3) := by decide +kernel
theorem dX4_begins_83 : decode cX4_begins 83 = .ok (.aload_n 0, 1) := by decide +kernel
theorem dX4_begins_84 : decode cX4_begins 84 = .ok (.getfield 7, 3) := by decide +kernel
theorem dX4_begins_87 : decode cX4_begins 87 = .ok (.iconst 5, 1) := by decide +kernel
theorem dX4_begins_88 : decode cX4_begins 88 = .ok (.iaload, 1) := by decide +kernel
theorem dX4_begins_89 : decode cX4_begins 89 = .ok (.aload_n 0, 1) := by decide +kernel
theorem dX4_begins_90 : decode cX4_begins 90 = .ok (.iload_n 2, 1) := by decide +kernel
theorem dX4_begins_91 : decode cX4_begins 91 = .ok (.iconst 2, 1) := by decide +kernel
theorem dX4_begins_92 : decode cX4_begins 92 = .ok (.invokevirtual 58, 3) := by decide +kernel
theorem dX4_begins_95 : decode cX4_begins 95 = .ok (.isub, 1) := by decide +kernel
theorem dX4_begins_96 : decode cX4_begins 96 = .ok (.aload_n 0, 1) := by decide +kernel
theorem dX4_begins_97 : decode cX4_begins 97 = .ok (.getfield 7, 3) := by decide +kernel
theorem dX4_begins_100 : decode cX4_begins 100 = .ok (.iconst 3, 1) := by decide +kernel
theorem dX4_begins_101 : decode cX4_begins 101 = .ok (.iaload, 1) := by decide +kernel
theorem dX4_begins_102 : decode cX4_begins 102 = .ok (.if_icmp .le 30, 3) := by decide +kernel
theorem dX4_begins_105 : decode cX4_begins 105 = .ok (.aload_n 0, 1) := by decide +kernel
theorem dX4_begins_106 : decode cX4_begins 106 = .ok (.aload_n 0, 1) := by decide +kernel
theorem dX4_begins_107 : decode cX4_begins 107 = .ok (.iload_n 2, 1) := by decide +kernel
theorem dX4_begins_108 : decode cX4_begins 108 = .ok (.iconst 0, 1) := by decide +kernel
theorem dX4_begins_109 : decode cX4_begins 109 = .ok (.invokevirtual 58, 3) := by decide +kernel
theorem dX4_begins_112 : decode cX4_begins 112 = .ok (.iconst 1, 1) := by decide +kernel
theorem dX4_begins_113 : decode cX4_begins 113 = .ok (.isub, 1) := by decide +kernel
theorem dX4_begins_114 : decode cX4_begins 114 = .ok (.iconst 0, 1) := by decide +kernel
theorem dX4_begins_115 : decode cX4_begins 115 = .ok (.invokevirtual 135, 3) := by decide +kernel
theorem dX4_begins_118 : decode cX4_begins 118 = .ok (.bipush 9, 2) := by decide +kernel
theorem dX4_begins_120 : decode cX4_begins 120 = .ok (.if_icmp .ge 12, 3) := by decide +kernel
theorem dX4_begins_123 : decode cX4_begins 123 = .ok (.aload_n 0, 1) := by decide +kernel
theorem dX4_begins_124 : decode cX4_begins 124 = .ok (.iload_n 2, 1) := by decide +kernel
theorem dX4_begins_125 : decode cX4_begins 125 = .ok (.invokevirtual 141, 3) := by decide +kernel
theorem dX4_begins_128 : decode cX4_begins 128 = .ok (.pop, 1) := by decide +kernel
theorem dX4_begins_129 : decode cX4_begins 129 = .ok (.iinc 1 1, 3) := by decide +kernel
theorem dX4_begins_132 : decode cX4_begins 132 = .ok (.iinc 2 1, 3) := by decide +kernel
theorem dX4_begins_135 : decode cX4_begins 135 = .ok (.goto (-66), 3) := by decide +kernel
theorem dX4_begins_138 : decode cX4_begins 138 = .ok (.iload_n 1, 1) := by decide +kernel
theorem dX4_begins_139 : decode cX4_begins 139 = .ok (.ireturn, 1) := by decide +kernel
set_option maxRecDepth 20000 in
theorem ggX4_passes_X4_begins : GoodIn wsX4_passes wsX4_begins := goodIn_r _ [5, 6, 7, 8, 9, 4, 10, 11, 12, 13, 14, 15, 16, 17, 18, 19, 20, 21, 22, 23, 24, 25, 26, 27, 28, 29, 30, 31, 32, 33, 34, 35, 36, 37, 38, 39, 40, 41, 42, 43, 44, 45, 46, 47, 48] (by decide +kernel) (by decide +kernel)
set_option maxRecDepth 20000 in
theorem gX4_passes_X4_begins : GoodIn wsX4_passes (wsV RX4 153 RX4 yX4_begins wsX4_begins) := goodIn_app (goodIn_of _ (by decide +kernel)) ggX4_passes_X4_begins
theorem dX4_passes_0 : decode cX4_passes 0 = .ok (.iconst 0, 1) := by decide +kernel
theorem dX4_passes_1 : decode cX4_passes 1 = .ok (.istore_n 2, 1) := by decide +kernel
theorem dX4_passes_2 : decode cX4_passes 2 = .ok (.iconst 0, 1) := by decide +kernel
theorem dX4_passes_3 : decode cX4_passes 3 = .ok (.istore_n 3, 1) := by decide +kernel
theorem dX4_passes_4 : decode cX4_passes 4 = .ok (.iload_n 3, 1) := by decide +kernel
theorem dX4_passes_5 : decode cX4_passes 5 = .ok (.iload_n 1, 1) := by decide +kernel
theorem dX4_passes_6 : decode cX4_passes 6 = .ok (.if_icmp .ge 16, 3) := by decide +kernel
theorem dX4_passes_9 : decode cX4_passes 9 = .ok (.iload_n 2, 1) := by decide +kernel
theorem dX4_passes_10 : decode cX4_passes 10 = .ok (.aload_n 0, 1) := by decide +kernel
theorem dX4_passes_11 : decode cX4_passes 11 = .ok (.invokevirtual 153, 3) := by decide +kernel
theorem dX4_passes_14 : decode cX4_passes 14 = .ok (.iadd, 1) := by decide +kernel
theorem dX4_passes_15 : decode cX4_passes 15 = .ok (.istore_n 2, 1) := by decide +kernel
theorem dX4_passes_16 : decode cX4_passes 16 = .ok (.iinc 3 1, 3) := by decide +kernel
theorem dX4_passes_19 : decode cX4_passes 19 = .ok (.goto (-15), 3) := by decide +kernel
theorem dX4_passes_22 : decode cX4_passes 22 = .ok (.iload_n 2, 1) := by decide +kernel
theorem dX4_passes_23 : decode cX4_passes 23 = .ok (.ireturn, 1) := by decide +kernel
set_option maxRecDepth 20000 in
theorem ggX4_pass_X4_whyNotPass : GoodIn wsX4_pass wsX4_whyNotPass := goodIn_r _ [5, 6, 7, 8, 4, 9, 52, 53, 54, 55, 56, 57, 58, 59, 60, 61, 62, 63, 64, 65] (by decide +kernel) (by decide +kernel)
set_option maxRecDepth 20000 in
theorem gX4_pass_X4_whyNotPass : GoodIn wsX4_pass (wsV RX4 156 RX4 yX4_whyNotPass wsX4_whyNotPass) := goodIn_app (goodIn_of _ (by decide +kernel)) ggX4_pass_X4_whyNotPass
set_option maxRecDepth 20000 in
theorem ggX4_pass_X4_record : GoodIn wsX4_pass wsX4_record := goodIn_r _ [13, 14, 15, 6, 52, 53, 54, 55, 56, 57, 58, 59, 60, 61, 62, 63, 64, 65] (by decide +kernel) (by decide +kernel)
set_option maxRecDepth 20000 in
theorem gX4_pass_X4_record : GoodIn wsX4_pass (wsV RX4 47 RX4 yX4_record wsX4_record) := goodIn_app (goodIn_of _ (by decide +kernel)) ggX4_pass_X4_record
set_option maxRecDepth 20000 in
theorem ggX4_pass_X4_passes : GoodIn wsX4_pass wsX4_passes := goodIn_r _ [19, 20, 21, 22, 4, 23, 6, 24, 25, 26, 27, 28, 29, 30, 31, 32, 33, 34, 35, 36, 37, 38, 39, 40, 41, 42, 43, 44, 45, 46, 47, 48, 49, 50, 51, 52, 53, 54, 55, 56, 57, 58, 59, 60, 61, 62, 63, 64, 65] (by decide +kernel) (by decide +kernel)
set_option maxRecDepth 20000 in
theorem gX4_pass_X4_passes : GoodIn wsX4_pass (wsV RX4 159 RX4 yX4_passes wsX4_passes) := goodIn_app (goodIn_of _ (by decide +kernel)) ggX4_pass_X4_passes
theorem dX4_pass_0 : decode cX4_pass 0 = .ok (.aload_n 0, 1) := by decide +kernel
theorem dX4_pass_1 : decode cX4_pass 1 = .ok (.iload_n 1, 1) := by decide +kernel
theorem dX4_pass_2 : decode cX4_pass 2 = .ok (.invokevirtual 156, 3) := by decide +kernel
theorem dX4_pass_5 : decode cX4_pass 5 = .ok (.istore_n 2, 1) := by decide +kernel
theorem dX4_pass_6 : decode cX4_pass 6 = .ok (.iload_n 2, 1) := by decide +kernel
theorem dX4_pass_7 : decode cX4_pass 7 = .ok (.ifCond .ge 5, 3) := by decide +kernel
theorem dX4_pass_10 : decode cX4_pass 10 = .ok (.iload_n 2, 1) := by decide +kernel
theorem dX4_pass_11 : decode cX4_pass 11 = .ok (.ireturn, 1) := by decide +kernel
theorem dX4_pass_12 : decode cX4_pass 12 = .ok (.aload_n 0, 1) := by decide +kernel
theorem dX4_pass_13 : decode cX4_pass 13 = .ok (.invokevirtual 47, 3) := by decide +kernel
theorem dX4_pass_16 : decode cX4_pass 16 = .ok (.aload_n 0, 1) := by decide +kernel
theorem dX4_pass_17 : decode cX4_pass 17 = .ok (.iload_n 1, 1) := by decide +kernel
theorem dX4_pass_18 : decode cX4_pass 18 = .ok (.invokevirtual 159, 3) := by decide +kernel
theorem dX4_pass_21 : decode cX4_pass 21 = .ok (.ireturn, 1) := by decide +kernel
set_option maxRecDepth 20000 in
theorem ggX4_call_X4_isSender : GoodIn wsX4_call wsX4_isSender := goodIn_r _ [4, 5, 6, 3, 7] (by decide +kernel) (by decide +kernel)
set_option maxRecDepth 20000 in
theorem gX4_call_X4_isSender : GoodIn wsX4_call (va_wsS RX4 86 yX4_isSender wsX4_isSender) := goodIn_app (goodIn_of _ (by decide +kernel)) ggX4_call_X4_isSender
set_option maxRecDepth 20000 in
theorem ggX4_call_X4_ofSender : GoodIn wsX4_call wsX4_ofSender := goodIn_r _ [11, 12, 27, 28, 29, 30, 31, 32, 33, 34, 35, 36, 37, 38, 39, 40] (by decide +kernel) (by decide +kernel)
set_option maxRecDepth 20000 in
theorem gX4_call_X4_ofSender : GoodIn wsX4_call (wsV RX4 135 RX4 yX4_ofSender wsX4_ofSender) := goodIn_app (goodIn_of _ (by decide +kernel)) ggX4_call_X4_ofSender
set_option maxRecDepth 20000 in
theorem ggX4_call_X4_record : GoodIn wsX4_call wsX4_record := goodIn_r _ [16, 17, 18, 12, 27, 28, 29, 30, 31, 32, 33, 34, 35, 36, 37, 38, 39, 40] (by decide +kernel) (by decide +kernel)
set_option maxRecDepth 20000 in
theorem gX4_call_X4_record : GoodIn wsX4_call (wsV RX4 47 RX4 yX4_record wsX4_record) := goodIn_app (goodIn_of _ (by decide +kernel)) ggX4_call_X4_record
set_option maxRecDepth 20000 in
theorem ggX4_call_X4_takes : GoodIn wsX4_call wsX4_takes := goodIn_r _ [22, 12, 8, 9, 10, 3, 11, 23, 24, 25, 26, 27, 28, 29, 30, 31, 32, 33, 34, 35, 36, 37, 38, 39, 40] (by decide +kernel) (by decide +kernel)
set_option maxRecDepth 20000 in
theorem gX4_call_X4_takes : GoodIn wsX4_call (wsV RX4 150 RX4 yX4_takes wsX4_takes) := goodIn_app (goodIn_of _ (by decide +kernel)) ggX4_call_X4_takes
theorem dX4_call_0 : decode cX4_call 0 = .ok (.iload_n 1, 1) := by decide +kernel
theorem dX4_call_1 : decode cX4_call 1 = .ok (.invokestatic 86, 3) := by decide +kernel
theorem dX4_call_4 : decode cX4_call 4 = .ok (.ifCond .ne 5, 3) := by decide +kernel
theorem dX4_call_7 : decode cX4_call 7 = .ok (.iconst (-1), 1) := by decide +kernel
theorem dX4_call_8 : decode cX4_call 8 = .ok (.ireturn, 1) := by decide +kernel
theorem dX4_call_9 : decode cX4_call 9 = .ok (.aload_n 0, 1) := by decide +kernel
theorem dX4_call_10 : decode cX4_call 10 = .ok (.iload_n 1, 1) := by decide +kernel
theorem dX4_call_11 : decode cX4_call 11 = .ok (.iconst 0, 1) := by decide +kernel
theorem dX4_call_12 : decode cX4_call 12 = .ok (.invokevirtual 135, 3) := by decide +kernel
theorem dX4_call_15 : decode cX4_call 15 = .ok (.ifCond .ne 6, 3) := by decide +kernel
theorem dX4_call_18 : decode cX4_call 18 = .ok (.bipush (-3), 2) := by decide +kernel
theorem dX4_call_20 : decode cX4_call 20 = .ok (.ireturn, 1) := by decide +kernel
theorem dX4_call_21 : decode cX4_call 21 = .ok (.aload_n 0, 1) := by decide +kernel
theorem dX4_call_22 : decode cX4_call 22 = .ok (.invokevirtual 47, 3) := by decide +kernel
theorem dX4_call_25 : decode cX4_call 25 = .ok (.aload_n 0, 1) := by decide +kernel
theorem dX4_call_26 : decode cX4_call 26 = .ok (.iload_n 1, 1) := by decide +kernel
theorem dX4_call_27 : decode cX4_call 27 = .ok (.bipush 6, 2) := by decide +kernel
theorem dX4_call_29 : decode cX4_call 29 = .ok (.invokevirtual 150, 3) := by decide +kernel
theorem dX4_call_32 : decode cX4_call 32 = .ok (.ireturn, 1) := by decide +kernel
theorem dX4_day_0 : decode cX4_day 0 = .ok (.aload_n 0, 1) := by decide +kernel
theorem dX4_day_1 : decode cX4_day 1 = .ok (.getfield 7, 3) := by decide +kernel
theorem dX4_day_4 : decode cX4_day 4 = .ok (.iconst 5, 1) := by decide +kernel
theorem dX4_day_5 : decode cX4_day 5 = .ok (.iaload, 1) := by decide +kernel
theorem dX4_day_6 : decode cX4_day 6 = .ok (.ireturn, 1) := by decide +kernel
set_option maxRecDepth 20000 in
theorem ggX4_parcel_X4_placeBy : GoodIn wsX4_parcel wsX4_placeBy := goodIn_r _ [6, 7, 8, 5, 9, 10, 11, 12, 13, 14, 15, 16, 17, 18, 19, 20, 21, 22, 23, 1, 28, 29, 30, 31, 32, 33, 34, 35, 36, 37, 38, 39, 40, 41] (by decide +kernel) (by decide +kernel)
set_option maxRecDepth 20000 in
theorem gX4_parcel_X4_placeBy : GoodIn wsX4_parcel (wsV RX4 112 RX4 yX4_placeBy wsX4_placeBy) := goodIn_app (goodIn_of _ (by decide +kernel)) ggX4_parcel_X4_placeBy
set_option maxRecDepth 20000 in
theorem ggX4_parcel_X4_at : GoodIn wsX4_parcel wsX4_at := goodIn_r _ [23, 1, 28, 29, 30, 31, 32, 33, 34, 35, 36, 37, 38, 39, 40, 41] (by decide +kernel) (by decide +kernel)
set_option maxRecDepth 20000 in
theorem gX4_parcel_X4_at : GoodIn wsX4_parcel (wsV RX4 58 RX4 yX4_at wsX4_at) := goodIn_app (goodIn_of _ (by decide +kernel)) ggX4_parcel_X4_at
set_option maxRecDepth 20000 in
theorem ggX4_parcel_X4_feeOn : GoodIn wsX4_parcel wsX4_feeOn := goodIn_r _ [27, 1, 20, 21, 22, 5, 23, 28, 29, 30, 31, 32, 33, 34, 35, 36, 37, 38, 39, 40, 41] (by decide +kernel) (by decide +kernel)
set_option maxRecDepth 20000 in
theorem gX4_parcel_X4_feeOn : GoodIn wsX4_parcel (wsV RX4 115 RX4 yX4_feeOn wsX4_feeOn) := goodIn_app (goodIn_of _ (by decide +kernel)) ggX4_parcel_X4_feeOn
theorem dX4_parcel_0 : decode cX4_parcel 0 = .ok (.aload_n 0, 1) := by decide +kernel
theorem dX4_parcel_1 : decode cX4_parcel 1 = .ok (.iload_n 1, 1) := by decide +kernel
theorem dX4_parcel_2 : decode cX4_parcel 2 = .ok (.invokevirtual 112, 3) := by decide +kernel
theorem dX4_parcel_5 : decode cX4_parcel 5 = .ok (.istore_n 3, 1) := by decide +kernel
theorem dX4_parcel_6 : decode cX4_parcel 6 = .ok (.iload_n 3, 1) := by decide +kernel
theorem dX4_parcel_7 : decode cX4_parcel 7 = .ok (.bipush (-6), 2) := by decide +kernel
theorem dX4_parcel_9 : decode cX4_parcel 9 = .ok (.if_icmp .ne 5, 3) := by decide +kernel
theorem dX4_parcel_12 : decode cX4_parcel 12 = .ok (.iconst (-1), 1) := by decide +kernel
theorem dX4_parcel_13 : decode cX4_parcel 13 = .ok (.ireturn, 1) := by decide +kernel
theorem dX4_parcel_14 : decode cX4_parcel 14 = .ok (.iload_n 2, 1) := by decide +kernel
theorem dX4_parcel_15 : decode cX4_parcel 15 = .ok (.tableswitch 75 0 5 #[37, 46, 46, 53, 58, 63], 37) := by decide +kernel
theorem dX4_parcel_52 : decode cX4_parcel 52 = .ok (.aload_n 0, 1) := by decide +kernel
theorem dX4_parcel_53 : decode cX4_parcel 53 = .ok (.iload_n 3, 1) := by decide +kernel
theorem dX4_parcel_54 : decode cX4_parcel 54 = .ok (.iconst 0, 1) := by decide +kernel
theorem dX4_parcel_55 : decode cX4_parcel 55 = .ok (.invokevirtual 58, 3) := by decide +kernel
theorem dX4_parcel_58 : decode cX4_parcel 58 = .ok (.iconst 1, 1) := by decide +kernel
theorem dX4_parcel_59 : decode cX4_parcel 59 = .ok (.isub, 1) := by decide +kernel
theorem dX4_parcel_60 : decode cX4_parcel 60 = .ok (.ireturn, 1) := by decide +kernel
theorem dX4_parcel_61 : decode cX4_parcel 61 = .ok (.aload_n 0, 1) := by decide +kernel
theorem dX4_parcel_62 : decode cX4_parcel 62 = .ok (.iload_n 3, 1) := by decide +kernel
theorem dX4_parcel_63 : decode cX4_parcel 63 = .ok (.iload_n 2, 1) := by decide +kernel
theorem dX4_parcel_64 : decode cX4_parcel 64 = .ok (.invokevirtual 58, 3) := by decide +kernel
theorem dX4_parcel_67 : decode cX4_parcel 67 = .ok (.ireturn, 1) := by decide +kernel
theorem dX4_parcel_68 : decode cX4_parcel 68 = .ok (.iload_n 3, 1) := by decide +kernel
theorem dX4_parcel_69 : decode cX4_parcel 69 = .ok (.bipush 8, 2) := by decide +kernel
theorem dX4_parcel_71 : decode cX4_parcel 71 = .ok (.idiv, 1) := by decide +kernel
theorem dX4_parcel_72 : decode cX4_parcel 72 = .ok (.ireturn, 1) := by decide +kernel
theorem dX4_parcel_73 : decode cX4_parcel 73 = .ok (.iload_n 3, 1) := by decide +kernel
theorem dX4_parcel_74 : decode cX4_parcel 74 = .ok (.bipush 8, 2) := by decide +kernel
theorem dX4_parcel_76 : decode cX4_parcel 76 = .ok (.irem, 1) := by decide +kernel
theorem dX4_parcel_77 : decode cX4_parcel 77 = .ok (.ireturn, 1) := by decide +kernel
theorem dX4_parcel_78 : decode cX4_parcel 78 = .ok (.aload_n 0, 1) := by decide +kernel
theorem dX4_parcel_79 : decode cX4_parcel 79 = .ok (.iload_n 3, 1) := by decide +kernel
theorem dX4_parcel_80 : decode cX4_parcel 80 = .ok (.aload_n 0, 1) := by decide +kernel
theorem dX4_parcel_81 : decode cX4_parcel 81 = .ok (.getfield 7, 3) := by decide +kernel
theorem dX4_parcel_84 : decode cX4_parcel 84 = .ok (.iconst 5, 1) := by decide +kernel
theorem dX4_parcel_85 : decode cX4_parcel 85 = .ok (.iaload, 1) := by decide +kernel
theorem dX4_parcel_86 : decode cX4_parcel 86 = .ok (.invokevirtual 115, 3) := by decide +kernel
theorem dX4_parcel_89 : decode cX4_parcel 89 = .ok (.ireturn, 1) := by decide +kernel
theorem dX4_parcel_90 : decode cX4_parcel 90 = .ok (.bipush (-2), 2) := by decide +kernel
theorem dX4_parcel_92 : decode cX4_parcel 92 = .ok (.ireturn, 1) := by decide +kernel
set_option maxRecDepth 20000 in
theorem ggX4_isPlace_X4_in : GoodIn wsX4_isPlace wsX4_in := goodIn_r _ [4] (by decide +kernel) (by decide +kernel)
set_option maxRecDepth 20000 in
theorem gX4_isPlace_X4_in : GoodIn wsX4_isPlace (va_wsS RX4 50 yX4_in wsX4_in) := goodIn_app (goodIn_of _ (by decide +kernel)) ggX4_isPlace_X4_in
theorem dX4_isPlace_0 : decode cX4_isPlace 0 = .ok (.iload_n 0, 1) := by decide +kernel
theorem dX4_isPlace_1 : decode cX4_isPlace 1 = .ok (.iconst 0, 1) := by decide +kernel
theorem dX4_isPlace_2 : decode cX4_isPlace 2 = .ok (.iconst 5, 1) := by decide +kernel
theorem dX4_isPlace_3 : decode cX4_isPlace 3 = .ok (.invokestatic 50, 3) := by decide +kernel
theorem dX4_isPlace_6 : decode cX4_isPlace 6 = .ok (.ifCond .eq 17, 3) := by decide +kernel
theorem dX4_isPlace_9 : decode cX4_isPlace 9 = .ok (.iload_n 1, 1) := by decide +kernel
theorem dX4_isPlace_10 : decode cX4_isPlace 10 = .ok (.iconst 0, 1) := by decide +kernel
theorem dX4_isPlace_11 : decode cX4_isPlace 11 = .ok (.bipush 7, 2) := by decide +kernel
theorem dX4_isPlace_13 : decode cX4_isPlace 13 = .ok (.invokestatic 50, 3) := by decide +kernel
theorem dX4_isPlace_16 : decode cX4_isPlace 16 = .ok (.ifCond .eq 7, 3) := by decide +kernel
theorem dX4_isPlace_19 : decode cX4_isPlace 19 = .ok (.iconst 1, 1) := by decide +kernel
theorem dX4_isPlace_20 : decode cX4_isPlace 20 = .ok (.goto 4, 3) := by decide +kernel
theorem dX4_isPlace_23 : decode cX4_isPlace 23 = .ok (.iconst 0, 1) := by decide +kernel
theorem dX4_isPlace_24 : decode cX4_isPlace 24 = .ok (.ireturn, 1) := by decide +kernel
set_option maxRecDepth 20000 in
theorem ggX4_codeAt_X4_isPlace : GoodIn wsX4_codeAt wsX4_isPlace := goodIn_r _ [4, 5, 6, 3, 7] (by decide +kernel) (by decide +kernel)
set_option maxRecDepth 20000 in
theorem gX4_codeAt_X4_isPlace : GoodIn wsX4_codeAt (va_wsS RX4 162 yX4_isPlace wsX4_isPlace) := goodIn_app (goodIn_of _ (by decide +kernel)) ggX4_codeAt_X4_isPlace
set_option maxRecDepth 20000 in
theorem ggX4_codeAt_X4_isTaken : GoodIn wsX4_codeAt wsX4_isTaken := goodIn_r _ [11, 12, 13, 14, 3, 15, 16, 24, 25, 26, 27, 28, 29, 30, 31, 32, 33, 34, 35, 36, 37] (by decide +kernel) (by decide +kernel)
set_option maxRecDepth 20000 in
theorem gX4_codeAt_X4_isTaken : GoodIn wsX4_codeAt (wsV RX4 69 RX4 yX4_isTaken wsX4_isTaken) := goodIn_app (goodIn_of _ (by decide +kernel)) ggX4_codeAt_X4_isTaken
set_option maxRecDepth 20000 in
theorem ggX4_codeAt_X4_codeOn : GoodIn wsX4_codeAt wsX4_codeOn := goodIn_r _ [20, 12, 13, 14, 3, 15, 16, 21, 22, 23, 24, 25, 26, 27, 28, 29, 30, 31, 32, 33, 34, 35, 36, 37] (by decide +kernel) (by decide +kernel)
set_option maxRecDepth 20000 in
theorem gX4_codeAt_X4_codeOn : GoodIn wsX4_codeAt (wsV RX4 99 RX4 yX4_codeOn wsX4_codeOn) := goodIn_app (goodIn_of _ (by decide +kernel)) ggX4_codeAt_X4_codeOn
theorem dX4_codeAt_0 : decode cX4_codeAt 0 = .ok (.iload_n 1, 1) := by decide +kernel
theorem dX4_codeAt_1 : decode cX4_codeAt 1 = .ok (.iload_n 2, 1) := by decide +kernel
theorem dX4_codeAt_2 : decode cX4_codeAt 2 = .ok (.invokestatic 162, 3) := by decide +kernel
theorem dX4_codeAt_5 : decode cX4_codeAt 5 = .ok (.ifCond .ne 5, 3) := by decide +kernel
theorem dX4_codeAt_8 : decode cX4_codeAt 8 = .ok (.iconst (-1), 1) := by decide +kernel
theorem dX4_codeAt_9 : decode cX4_codeAt 9 = .ok (.ireturn, 1) := by decide +kernel
theorem dX4_codeAt_10 : decode cX4_codeAt 10 = .ok (.aload_n 0, 1) := by decide +kernel
theorem dX4_codeAt_11 : decode cX4_codeAt 11 = .ok (.bipush 8, 2) := by decide +kernel
theorem dX4_codeAt_13 : decode cX4_codeAt 13 = .ok (.iload_n 1, 1) := by decide +kernel
theorem dX4_codeAt_14 : decode cX4_codeAt 14 = .ok (.imul, 1) := by decide +kernel
theorem dX4_codeAt_15 : decode cX4_codeAt 15 = .ok (.iload_n 2, 1) := by decide +kernel
theorem dX4_codeAt_16 : decode cX4_codeAt 16 = .ok (.iadd, 1) := by decide +kernel
theorem dX4_codeAt_17 : decode cX4_codeAt 17 = .ok (.invokevirtual 69, 3) := by decide +kernel
theorem dX4_codeAt_20 : decode cX4_codeAt 20 = .ok (.ifCond .eq 16, 3) := by decide +kernel
theorem dX4_codeAt_23 : decode cX4_codeAt 23 = .ok (.aload_n 0, 1) := by decide +kernel
theorem dX4_codeAt_24 : decode cX4_codeAt 24 = .ok (.bipush 8, 2) := by decide +kernel
theorem dX4_codeAt_26 : decode cX4_codeAt 26 = .ok (.iload_n 1, 1) := by decide +kernel
theorem dX4_codeAt_27 : decode cX4_codeAt 27 = .ok (.imul, 1) := by decide +kernel
theorem dX4_codeAt_28 : decode cX4_codeAt 28 = .ok (.iload_n 2, 1) := by decide +kernel
theorem dX4_codeAt_29 : decode cX4_codeAt 29 = .ok (.iadd, 1) := by decide +kernel
theorem dX4_codeAt_30 : decode cX4_codeAt 30 = .ok (.invokevirtual 99, 3) := by decide +kernel
theorem dX4_codeAt_33 : decode cX4_codeAt 33 = .ok (.goto 5, 3) := by decide +kernel
theorem dX4_codeAt_36 : decode cX4_codeAt 36 = .ok (.bipush (-6), 2) := by decide +kernel
theorem dX4_codeAt_38 : decode cX4_codeAt 38 = .ok (.ireturn, 1) := by decide +kernel
set_option maxRecDepth 20000 in
theorem ggX4_shelf_X4_in : GoodIn wsX4_shelf wsX4_in := goodIn_r _ [4] (by decide +kernel) (by decide +kernel)
set_option maxRecDepth 20000 in
theorem gX4_shelf_X4_in : GoodIn wsX4_shelf (va_wsS RX4 50 yX4_in wsX4_in) := goodIn_app (goodIn_of _ (by decide +kernel)) ggX4_shelf_X4_in
set_option maxRecDepth 20000 in
theorem ggX4_shelf_X4_isTaken : GoodIn wsX4_shelf wsX4_isTaken := goodIn_r _ [8, 9, 10, 11, 3, 12, 13, 25, 26, 27, 28, 29, 30, 31, 32, 33, 34, 35, 36, 37, 38] (by decide +kernel) (by decide +kernel)
set_option maxRecDepth 20000 in
theorem gX4_shelf_X4_isTaken : GoodIn wsX4_shelf (wsV RX4 69 RX4 yX4_isTaken wsX4_isTaken) := goodIn_app (goodIn_of _ (by decide +kernel)) ggX4_shelf_X4_isTaken
set_option maxRecDepth 20000 in
theorem ggX4_shelf_X4_rests : GoodIn wsX4_shelf wsX4_rests := goodIn_r _ [17, 13, 18, 19, 3, 20, 21, 22, 23, 24, 25, 26, 27, 28, 29, 30, 31, 32, 33, 34, 35, 36, 37, 38] (by decide +kernel) (by decide +kernel)
set_option maxRecDepth 20000 in
theorem gX4_shelf_X4_rests : GoodIn wsX4_shelf (wsV RX4 79 RX4 yX4_rests wsX4_rests) := goodIn_app (goodIn_of _ (by decide +kernel)) ggX4_shelf_X4_rests
theorem dX4_shelf_0 : decode cX4_shelf 0 = .ok (.iload_n 1, 1) := by decide +kernel
theorem dX4_shelf_1 : decode cX4_shelf 1 = .ok (.iconst 0, 1) := by decide +kernel
theorem dX4_shelf_2 : decode cX4_shelf 2 = .ok (.iconst 5, 1) := by decide +kernel
theorem dX4_shelf_3 : decode cX4_shelf 3 = .ok (.invokestatic 50, 3) := by decide +kernel
theorem dX4_shelf_6 : decode cX4_shelf 6 = .ok (.ifCond .ne 5, 3) := by decide +kernel
theorem dX4_shelf_9 : decode cX4_shelf 9 = .ok (.iconst (-1), 1) := by decide +kernel
theorem dX4_shelf_10 : decode cX4_shelf 10 = .ok (.ireturn, 1) := by decide +kernel
theorem dX4_shelf_11 : decode cX4_shelf 11 = .ok (.iload_n 2, 1) := by decide +kernel
theorem dX4_shelf_12 : decode cX4_shelf 12 = .ok (.iconst 0, 1) := by decide +kernel
theorem dX4_shelf_13 : decode cX4_shelf 13 = .ok (.iconst 2, 1) := by decide +kernel
theorem dX4_shelf_14 : decode cX4_shelf 14 = .ok (.invokestatic 50, 3) := by decide +kernel
theorem dX4_shelf_17 : decode cX4_shelf 17 = .ok (.ifCond .ne 6, 3) := by decide +kernel
theorem dX4_shelf_20 : decode cX4_shelf 20 = .ok (.bipush (-2), 2) := by decide +kernel
theorem dX4_shelf_22 : decode cX4_shelf 22 = .ok (.ireturn, 1) := by decide +kernel
theorem dX4_shelf_23 : decode cX4_shelf 23 = .ok (.iconst 0, 1) := by decide +kernel
theorem dX4_shelf_24 : decode cX4_shelf 24 = .ok (.istore_n 3, 1) := by decide +kernel
theorem dX4_shelf_25 : decode cX4_shelf 25 = .ok (.iconst 0, 1) := by decide +kernel
theorem dX4_shelf_26 : decode cX4_shelf 26 = .ok (.istore 4, 2) := by decide +kernel
theorem dX4_shelf_28 : decode cX4_shelf 28 = .ok (.bipush 8, 2) := by decide +kernel
theorem dX4_shelf_30 : decode cX4_shelf 30 = .ok (.iload_n 1, 1) := by decide +kernel
theorem dX4_shelf_31 : decode cX4_shelf 31 = .ok (.imul, 1) := by decide +kernel
theorem dX4_shelf_32 : decode cX4_shelf 32 = .ok (.istore 5, 2) := by decide +kernel
theorem dX4_shelf_34 : decode cX4_shelf 34 = .ok (.iload 5, 2) := by decide +kernel
theorem dX4_shelf_36 : decode cX4_shelf 36 = .ok (.bipush 8, 2) := by decide +kernel
theorem dX4_shelf_38 : decode cX4_shelf 38 = .ok (.iload_n 1, 1) := by decide +kernel
theorem dX4_shelf_39 : decode cX4_shelf 39 = .ok (.iconst 1, 1) := by decide +kernel
theorem dX4_shelf_40 : decode cX4_shelf 40 = .ok (.iadd, 1) := by decide +kernel
theorem dX4_shelf_41 : decode cX4_shelf 41 = .ok (.imul, 1) := by decide +kernel
theorem dX4_shelf_42 : decode cX4_shelf 42 = .ok (.if_icmp .ge 54, 3) := by decide +kernel
theorem dX4_shelf_45 : decode cX4_shelf 45 = .ok (.iload_n 3, 1) := by decide +kernel
theorem dX4_shelf_46 : decode cX4_shelf 46 = .ok (.aload_n 0, 1) := by decide +kernel
theorem dX4_shelf_47 : decode cX4_shelf 47 = .ok (.iload 5, 2) := by decide +kernel
theorem dX4_shelf_49 : decode cX4_shelf 49 = .ok (.invokevirtual 69, 3) := by decide +kernel
theorem dX4_shelf_52 : decode cX4_shelf 52 = .ok (.ifCond .eq 7, 3) := by decide +kernel
theorem dX4_shelf_55 : decode cX4_shelf 55 = .ok (.iconst 1, 1) := by decide +kernel
theorem dX4_shelf_56 : decode cX4_shelf 56 = .ok (.goto 4, 3) := by decide +kernel
theorem dX4_shelf_59 : decode cX4_shelf 59 = .ok (.iconst 0, 1) := by decide +kernel
theorem dX4_shelf_60 : decode cX4_shelf 60 = .ok (.iadd, 1) := by decide +kernel
theorem dX4_shelf_61 : decode cX4_shelf 61 = .ok (.istore_n 3, 1) := by decide +kernel
theorem dX4_shelf_62 : decode cX4_shelf 62 = .ok (.iload 4, 2) := by decide +kernel
theorem dX4_shelf_64 : decode cX4_shelf 64 = .ok (.aload_n 0, 1) := by decide +kernel
theorem dX4_shelf_65 : decode cX4_shelf 65 = .ok (.iload 5, 2) := by decide +kernel
theorem dX4_shelf_67 : decode cX4_shelf 67 = .ok (.invokevirtual 69, 3) := by decide +kernel
theorem dX4_shelf_70 : decode cX4_shelf 70 = .ok (.ifCond .ne 16, 3) := by decide +kernel
theorem dX4_shelf_73 : decode cX4_shelf 73 = .ok (.aload_n 0, 1) := by decide +kernel
theorem dX4_shelf_74 : decode cX4_shelf 74 = .ok (.iload 5, 2) := by decide +kernel
theorem dX4_shelf_76 : decode cX4_shelf 76 = .ok (.invokevirtual 79, 3) := by decide +kernel
theorem dX4_shelf_79 : decode cX4_shelf 79 = .ok (.ifCond .eq 7, 3) := by decide +kernel
theorem dX4_shelf_82 : decode cX4_shelf 82 = .ok (.iconst 1, 1) := by decide +kernel
theorem dX4_shelf_83 : decode cX4_shelf 83 = .ok (.goto 4, 3) := by decide +kernel
theorem dX4_shelf_86 : decode cX4_shelf 86 = .ok (.iconst 0, 1) := by decide +kernel
theorem dX4_shelf_87 : decode cX4_shelf 87 = .ok (.iadd, 1) := by decide +kernel
theorem dX4_shelf_88 : decode cX4_shelf 88 = .ok (.istore 4, 2) := by decide +kernel
theorem dX4_shelf_90 : decode cX4_shelf 90 = .ok (.iinc 5 1, 3) := by decide +kernel
theorem dX4_shelf_93 : decode cX4_shelf 93 = .ok (.goto (-59), 3) := by decide +kernel
theorem dX4_shelf_96 : decode cX4_shelf 96 = .ok (.iload_n 2, 1) := by decide +kernel
theorem dX4_shelf_97 : decode cX4_shelf 97 = .ok (.ifCond .ne 9, 3) := by decide +kernel
theorem dX4_shelf_100 : decode cX4_shelf 100 = .ok (.iload_n 1, 1) := by decide +kernel
theorem dX4_shelf_101 : decode cX4_shelf 101 = .ok (.iconst 2, 1) := by decide +kernel
theorem dX4_shelf_102 : decode cX4_shelf 102 = .ok (.idiv, 1) := by decide +kernel
theorem dX4_shelf_103 : decode cX4_shelf 103 = .ok (.goto 14, 3) := by decide +kernel
theorem dX4_shelf_106 : decode cX4_shelf 106 = .ok (.iload_n 2, 1) := by decide +kernel
theorem dX4_shelf_107 : decode cX4_shelf 107 = .ok (.iconst 1, 1) := by decide +kernel
theorem dX4_shelf_108 : decode cX4_shelf 108 = .ok (.if_icmp .ne 7, 3) := by decide +kernel
theorem dX4_shelf_111 : decode cX4_shelf 111 = .ok (.iload_n 3, 1) := by decide +kernel
theorem dX4_shelf_112 : decode cX4_shelf 112 = .ok (.goto 5, 3) := by decide +kernel
theorem dX4_shelf_115 : decode cX4_shelf 115 = .ok (.iload 4, 2) := by decide +kernel
theorem dX4_shelf_117 : decode cX4_shelf 117 = .ok (.ireturn, 1) := by decide +kernel
set_option maxRecDepth 20000 in
theorem ggX4_sender_X4_isSender : GoodIn wsX4_sender wsX4_isSender := goodIn_r _ [4, 5, 6, 3, 7] (by decide +kernel) (by decide +kernel)
set_option maxRecDepth 20000 in
theorem gX4_sender_X4_isSender : GoodIn wsX4_sender (va_wsS RX4 86 yX4_isSender wsX4_isSender) := goodIn_app (goodIn_of _ (by decide +kernel)) ggX4_sender_X4_isSender
set_option maxRecDepth 20000 in
theorem ggX4_sender_X4_in : GoodIn wsX4_sender wsX4_in := goodIn_r _ [7] (by decide +kernel) (by decide +kernel)
set_option maxRecDepth 20000 in
theorem gX4_sender_X4_in : GoodIn wsX4_sender (va_wsS RX4 50 yX4_in wsX4_in) := goodIn_app (goodIn_of _ (by decide +kernel)) ggX4_sender_X4_in
set_option maxRecDepth 20000 in
theorem ggX4_sender_X4_at : GoodIn wsX4_sender wsX4_at := goodIn_r _ [11, 12, 17, 18, 19, 20, 21, 22, 23, 24, 25, 26, 27, 28, 29, 30] (by decide +kernel) (by decide +kernel)
set_option maxRecDepth 20000 in
theorem gX4_sender_X4_at : GoodIn wsX4_sender (wsV RX4 58 RX4 yX4_at wsX4_at) := goodIn_app (goodIn_of _ (by decide +kernel)) ggX4_sender_X4_at
set_option maxRecDepth 20000 in
theorem ggX4_sender_X4_ofSender : GoodIn wsX4_sender wsX4_ofSender := goodIn_r _ [16, 12, 17, 18, 19, 20, 21, 22, 23, 24, 25, 26, 27, 28, 29, 30] (by decide +kernel) (by decide +kernel)
set_option maxRecDepth 20000 in
theorem gX4_sender_X4_ofSender : GoodIn wsX4_sender (wsV RX4 135 RX4 yX4_ofSender wsX4_ofSender) := goodIn_app (goodIn_of _ (by decide +kernel)) ggX4_sender_X4_ofSender
theorem dX4_sender_0 : decode cX4_sender 0 = .ok (.iload_n 1, 1) := by decide +kernel
theorem dX4_sender_1 : decode cX4_sender 1 = .ok (.invokestatic 86, 3) := by decide +kernel
theorem dX4_sender_4 : decode cX4_sender 4 = .ok (.ifCond .ne 5, 3) := by decide +kernel
theorem dX4_sender_7 : decode cX4_sender 7 = .ok (.iconst (-1), 1) := by decide +kernel
theorem dX4_sender_8 : decode cX4_sender 8 = .ok (.ireturn, 1) := by decide +kernel
theorem dX4_sender_9 : decode cX4_sender 9 = .ok (.iload_n 2, 1) := by decide +kernel
theorem dX4_sender_10 : decode cX4_sender 10 = .ok (.iconst 0, 1) := by decide +kernel
theorem dX4_sender_11 : decode cX4_sender 11 = .ok (.iconst 4, 1) := by decide +kernel
theorem dX4_sender_12 : decode cX4_sender 12 = .ok (.invokestatic 50, 3) := by decide +kernel
theorem dX4_sender_15 : decode cX4_sender 15 = .ok (.ifCond .ne 6, 3) := by decide +kernel
theorem dX4_sender_18 : decode cX4_sender 18 = .ok (.bipush (-2), 2) := by decide +kernel
theorem dX4_sender_20 : decode cX4_sender 20 = .ok (.ireturn, 1) := by decide +kernel
theorem dX4_sender_21 : decode cX4_sender 21 = .ok (.iconst 0, 1) := by decide +kernel
theorem dX4_sender_22 : decode cX4_sender 22 = .ok (.istore_n 3, 1) := by decide +kernel
theorem dX4_sender_23 : decode cX4_sender 23 = .ok (.iconst 0, 1) := by decide +kernel
theorem dX4_sender_24 : decode cX4_sender 24 = .ok (.istore 4, 2) := by decide +kernel
theorem dX4_sender_26 : decode cX4_sender 26 = .ok (.iload 4, 2) := by decide +kernel
theorem dX4_sender_28 : decode cX4_sender 28 = .ok (.bipush 48, 2) := by decide +kernel
theorem dX4_sender_30 : decode cX4_sender 30 = .ok (.if_icmp .ge 30, 3) := by decide +kernel
theorem dX4_sender_33 : decode cX4_sender 33 = .ok (.iload_n 3, 1) := by decide +kernel
theorem dX4_sender_34 : decode cX4_sender 34 = .ok (.aload_n 0, 1) := by decide +kernel
theorem dX4_sender_35 : decode cX4_sender 35 = .ok (.iload 4, 2) := by decide +kernel
theorem dX4_sender_37 : decode cX4_sender 37 = .ok (.iconst 0, 1) := by decide +kernel
theorem dX4_sender_38 : decode cX4_sender 38 = .ok (.invokevirtual 58, 3) := by decide +kernel
theorem dX4_sender_41 : decode cX4_sender 41 = .ok (.iload_n 1, 1) := by decide +kernel
theorem dX4_sender_42 : decode cX4_sender 42 = .ok (.iconst 1, 1) := by decide +kernel
theorem dX4_sender_43 : decode cX4_sender 43 = .ok (.iadd, 1) := by decide +kernel
theorem dX4_sender_44 : decode cX4_sender 44 = .ok (.if_icmp .ne 7, 3) := by decide +kernel
theorem dX4_sender_47 : decode cX4_sender 47 = .ok (.iconst 1, 1) := by decide +kernel
theorem dX4_sender_48 : decode cX4_sender 48 = .ok (.goto 4, 3) := by decide +kernel
theorem dX4_sender_51 : decode cX4_sender 51 = .ok (.iconst 0, 1) := by decide +kernel
theorem dX4_sender_52 : decode cX4_sender 52 = .ok (.iadd, 1) := by decide +kernel
theorem dX4_sender_53 : decode cX4_sender 53 = .ok (.istore_n 3, 1) := by decide +kernel
theorem dX4_sender_54 : decode cX4_sender 54 = .ok (.iinc 4 1, 3) := by decide +kernel
theorem dX4_sender_57 : decode cX4_sender 57 = .ok (.goto (-31), 3) := by decide +kernel
theorem dX4_sender_60 : decode cX4_sender 60 = .ok (.iload_n 2, 1) := by decide +kernel
theorem dX4_sender_61 : decode cX4_sender 61 = .ok (.ifCond .ne 7, 3) := by decide +kernel
theorem dX4_sender_64 : decode cX4_sender 64 = .ok (.iload_n 3, 1) := by decide +kernel
theorem dX4_sender_65 : decode cX4_sender 65 = .ok (.goto 11, 3) := by decide +kernel
theorem dX4_sender_68 : decode cX4_sender 68 = .ok (.aload_n 0, 1) := by decide +kernel
theorem dX4_sender_69 : decode cX4_sender 69 = .ok (.iload_n 1, 1) := by decide +kernel
theorem dX4_sender_70 : decode cX4_sender 70 = .ok (.iload_n 2, 1) := by decide +kernel
theorem dX4_sender_71 : decode cX4_sender 71 = .ok (.iconst 1, 1) := by decide +kernel
theorem dX4_sender_72 : decode cX4_sender 72 = .ok (.isub, 1) := by decide +kernel
theorem dX4_sender_73 : decode cX4_sender 73 = .ok (.invokevirtual 135, 3) := by decide +kernel
theorem dX4_sender_76 : decode cX4_sender 76 = .ok (.ireturn, 1) := by decide +kernel
set_option maxRecDepth 20000 in
theorem ggX4_parcels_X4_isTaken : GoodIn wsX4_parcels wsX4_isTaken := goodIn_r _ [5, 6, 7, 8, 4, 9, 10, 11, 12, 13, 14, 15, 16, 17, 18, 19, 20, 21, 22, 23, 24] (by decide +kernel) (by decide +kernel)
set_option maxRecDepth 20000 in
theorem gX4_parcels_X4_isTaken : GoodIn wsX4_parcels (wsV RX4 69 RX4 yX4_isTaken wsX4_isTaken) := goodIn_app (goodIn_of _ (by decide +kernel)) ggX4_parcels_X4_isTaken
theorem dX4_parcels_0 : decode cX4_parcels 0 = .ok (.iconst 0, 1) := by decide +kernel
theorem dX4_parcels_1 : decode cX4_parcels 1 = .ok (.istore_n 1, 1) := by decide +kernel
theorem dX4_parcels_2 : decode cX4_parcels 2 = .ok (.iconst 0, 1) := by decide +kernel
theorem dX4_parcels_3 : decode cX4_parcels 3 = .ok (.istore_n 2, 1) := by decide +kernel
theorem dX4_parcels_4 : decode cX4_parcels 4 = .ok (.iload_n 2, 1) := by decide +kernel
theorem dX4_parcels_5 : decode cX4_parcels 5 = .ok (.bipush 48, 2) := by decide +kernel
theorem dX4_parcels_7 : decode cX4_parcels 7 = .ok (.if_icmp .ge 25, 3) := by decide +kernel
theorem dX4_parcels_10 : decode cX4_parcels 10 = .ok (.iload_n 1, 1) := by decide +kernel
theorem dX4_parcels_11 : decode cX4_parcels 11 = .ok (.aload_n 0, 1) := by decide +kernel
theorem dX4_parcels_12 : decode cX4_parcels 12 = .ok (.iload_n 2, 1) := by decide +kernel
theorem dX4_parcels_13 : decode cX4_parcels 13 = .ok (.invokevirtual 69, 3) := by decide +kernel
theorem dX4_parcels_16 : decode cX4_parcels 16 = .ok (.ifCond .eq 7, 3) := by decide +kernel
theorem dX4_parcels_19 : decode cX4_parcels 19 = .ok (.iconst 1, 1) := by decide +kernel
theorem dX4_parcels_20 : decode cX4_parcels 20 = .ok (.goto 4, 3) := by decide +kernel
theorem dX4_parcels_23 : decode cX4_parcels 23 = .ok (.iconst 0, 1) := by decide +kernel
theorem dX4_parcels_24 : decode cX4_parcels 24 = .ok (.iadd, 1) := by decide +kernel
theorem dX4_parcels_25 : decode cX4_parcels 25 = .ok (.istore_n 1, 1) := by decide +kernel
theorem dX4_parcels_26 : decode cX4_parcels 26 = .ok (.iinc 2 1, 3) := by decide +kernel
theorem dX4_parcels_29 : decode cX4_parcels 29 = .ok (.goto (-25), 3) := by decide +kernel
theorem dX4_parcels_32 : decode cX4_parcels 32 = .ok (.iload_n 1, 1) := by decide +kernel
theorem dX4_parcels_33 : decode cX4_parcels 33 = .ok (.ireturn, 1) := by decide +kernel
set_option maxRecDepth 20000 in
theorem ggX4_inBins_X4_ofSender : GoodIn wsX4_inBins wsX4_ofSender := goodIn_r _ [5, 6, 7, 8, 9, 10, 11, 12, 13, 14, 15, 16, 17, 18, 19, 20] (by decide +kernel) (by decide +kernel)
set_option maxRecDepth 20000 in
theorem gX4_inBins_X4_ofSender : GoodIn wsX4_inBins (wsV RX4 135 RX4 yX4_ofSender wsX4_ofSender) := goodIn_app (goodIn_of _ (by decide +kernel)) ggX4_inBins_X4_ofSender
theorem dX4_inBins_0 : decode cX4_inBins 0 = .ok (.iconst 0, 1) := by decide +kernel
theorem dX4_inBins_1 : decode cX4_inBins 1 = .ok (.istore_n 1, 1) := by decide +kernel
theorem dX4_inBins_2 : decode cX4_inBins 2 = .ok (.iconst 0, 1) := by decide +kernel
theorem dX4_inBins_3 : decode cX4_inBins 3 = .ok (.istore_n 2, 1) := by decide +kernel
theorem dX4_inBins_4 : decode cX4_inBins 4 = .ok (.iload_n 2, 1) := by decide +kernel
theorem dX4_inBins_5 : decode cX4_inBins 5 = .ok (.bipush 10, 2) := by decide +kernel
theorem dX4_inBins_7 : decode cX4_inBins 7 = .ok (.if_icmp .ge 18, 3) := by decide +kernel
theorem dX4_inBins_10 : decode cX4_inBins 10 = .ok (.iload_n 1, 1) := by decide +kernel
theorem dX4_inBins_11 : decode cX4_inBins 11 = .ok (.aload_n 0, 1) := by decide +kernel
theorem dX4_inBins_12 : decode cX4_inBins 12 = .ok (.iload_n 2, 1) := by decide +kernel
theorem dX4_inBins_13 : decode cX4_inBins 13 = .ok (.iconst 0, 1) := by decide +kernel
theorem dX4_inBins_14 : decode cX4_inBins 14 = .ok (.invokevirtual 135, 3) := by decide +kernel
theorem dX4_inBins_17 : decode cX4_inBins 17 = .ok (.iadd, 1) := by decide +kernel
theorem dX4_inBins_18 : decode cX4_inBins 18 = .ok (.istore_n 1, 1) := by decide +kernel
theorem dX4_inBins_19 : decode cX4_inBins 19 = .ok (.iinc 2 1, 3) := by decide +kernel
theorem dX4_inBins_22 : decode cX4_inBins 22 = .ok (.goto (-18), 3) := by decide +kernel
theorem dX4_inBins_25 : decode cX4_inBins 25 = .ok (.iload_n 1, 1) := by decide +kernel
theorem dX4_inBins_26 : decode cX4_inBins 26 = .ok (.ireturn, 1) := by decide +kernel
set_option maxRecDepth 20000 in
theorem ggX4_fees_X4_isTaken : GoodIn wsX4_fees wsX4_isTaken := goodIn_r _ [6, 7, 8, 9, 5, 10, 1, 15, 16, 17, 18, 19, 20, 21, 22, 23, 24, 25, 26, 27, 28] (by decide +kernel) (by decide +kernel)
set_option maxRecDepth 20000 in
theorem gX4_fees_X4_isTaken : GoodIn wsX4_fees (wsV RX4 69 RX4 yX4_isTaken wsX4_isTaken) := goodIn_app (goodIn_of _ (by decide +kernel)) ggX4_fees_X4_isTaken
set_option maxRecDepth 20000 in
theorem ggX4_fees_X4_feeOn : GoodIn wsX4_fees wsX4_feeOn := goodIn_r _ [14, 1, 7, 8, 9, 5, 10, 15, 16, 17, 18, 19, 20, 21, 22, 23, 24, 25, 26, 27, 28] (by decide +kernel) (by decide +kernel)
set_option maxRecDepth 20000 in
theorem gX4_fees_X4_feeOn : GoodIn wsX4_fees (wsV RX4 115 RX4 yX4_feeOn wsX4_feeOn) := goodIn_app (goodIn_of _ (by decide +kernel)) ggX4_fees_X4_feeOn
theorem dX4_fees_0 : decode cX4_fees 0 = .ok (.iconst 0, 1) := by decide +kernel
theorem dX4_fees_1 : decode cX4_fees 1 = .ok (.istore_n 1, 1) := by decide +kernel
theorem dX4_fees_2 : decode cX4_fees 2 = .ok (.iconst 0, 1) := by decide +kernel
theorem dX4_fees_3 : decode cX4_fees 3 = .ok (.istore_n 2, 1) := by decide +kernel
theorem dX4_fees_4 : decode cX4_fees 4 = .ok (.iload_n 2, 1) := by decide +kernel
theorem dX4_fees_5 : decode cX4_fees 5 = .ok (.bipush 48, 2) := by decide +kernel
theorem dX4_fees_7 : decode cX4_fees 7 = .ok (.if_icmp .ge 35, 3) := by decide +kernel
theorem dX4_fees_10 : decode cX4_fees 10 = .ok (.iload_n 1, 1) := by decide +kernel
theorem dX4_fees_11 : decode cX4_fees 11 = .ok (.aload_n 0, 1) := by decide +kernel
theorem dX4_fees_12 : decode cX4_fees 12 = .ok (.iload_n 2, 1) := by decide +kernel
theorem dX4_fees_13 : decode cX4_fees 13 = .ok (.invokevirtual 69, 3) := by decide +kernel
theorem dX4_fees_16 : decode cX4_fees 16 = .ok (.ifCond .eq 17, 3) := by decide +kernel
theorem dX4_fees_19 : decode cX4_fees 19 = .ok (.aload_n 0, 1) := by decide +kernel
theorem dX4_fees_20 : decode cX4_fees 20 = .ok (.iload_n 2, 1) := by decide +kernel
theorem dX4_fees_21 : decode cX4_fees 21 = .ok (.aload_n 0, 1) := by decide +kernel
theorem dX4_fees_22 : decode cX4_fees 22 = .ok (.getfield 7, 3) := by decide +kernel
theorem dX4_fees_25 : decode cX4_fees 25 = .ok (.iconst 5, 1) := by decide +kernel
theorem dX4_fees_26 : decode cX4_fees 26 = .ok (.iaload, 1) := by decide +kernel
theorem dX4_fees_27 : decode cX4_fees 27 = .ok (.invokevirtual 115, 3) := by decide +kernel
theorem dX4_fees_30 : decode cX4_fees 30 = .ok (.goto 4, 3) := by decide +kernel
theorem dX4_fees_33 : decode cX4_fees 33 = .ok (.iconst 0, 1) := by decide +kernel
theorem dX4_fees_34 : decode cX4_fees 34 = .ok (.iadd, 1) := by decide +kernel
theorem dX4_fees_35 : decode cX4_fees 35 = .ok (.istore_n 1, 1) := by decide +kernel
theorem dX4_fees_36 : decode cX4_fees 36 = .ok (.iinc 2 1, 3) := by decide +kernel
theorem dX4_fees_39 : decode cX4_fees 39 = .ok (.goto (-35), 3) := by decide +kernel
theorem dX4_fees_42 : decode cX4_fees 42 = .ok (.iload_n 1, 1) := by decide +kernel
theorem dX4_fees_43 : decode cX4_fees 43 = .ok (.ireturn, 1) := by decide +kernel
set_option maxRecDepth 20000 in
theorem ggX4_total_X4_parcels : GoodIn wsX4_total wsX4_parcels := goodIn_r _ [6, 7, 8, 9, 5, 10, 11, 12, 13, 14, 1, 35, 36, 37, 38, 39, 40, 41, 42, 43, 44, 45, 46, 47, 48] (by decide +kernel) (by decide +kernel)
set_option maxRecDepth 20000 in
theorem gX4_total_X4_parcels : GoodIn wsX4_total (wsV RX4 43 RX4 yX4_parcels wsX4_parcels) := goodIn_app (goodIn_of _ (by decide +kernel)) ggX4_total_X4_parcels
set_option maxRecDepth 20000 in
theorem ggX4_total_X4_inBins : GoodIn wsX4_total wsX4_inBins := goodIn_r _ [18, 19, 20, 21, 5, 22, 1, 35, 36, 37, 38, 39, 40, 41, 42, 43, 44, 45, 46, 47, 48] (by decide +kernel) (by decide +kernel)
set_option maxRecDepth 20000 in
theorem gX4_total_X4_inBins : GoodIn wsX4_total (wsV RX4 165 RX4 yX4_inBins wsX4_inBins) := goodIn_app (goodIn_of _ (by decide +kernel)) ggX4_total_X4_inBins
set_option maxRecDepth 20000 in
theorem ggX4_total_X4_isLocked : GoodIn wsX4_total wsX4_isLocked := goodIn_r _ [26, 1, 35, 36, 37, 38, 39, 40, 41, 42, 43, 44, 45, 46, 47, 48] (by decide +kernel) (by decide +kernel)
set_option maxRecDepth 20000 in
theorem gX4_total_X4_isLocked : GoodIn wsX4_total (wsV RX4 108 RX4 yX4_isLocked wsX4_isLocked) := goodIn_app (goodIn_of _ (by decide +kernel)) ggX4_total_X4_isLocked
set_option maxRecDepth 20000 in
theorem ggX4_total_X4_fees : GoodIn wsX4_total wsX4_fees := goodIn_r _ [30, 1, 7, 8, 9, 5, 10, 11, 12, 13, 14, 31, 32, 33, 34, 35, 36, 37, 38, 39, 40, 41, 42, 43, 44, 45, 46, 47, 48] (by decide +kernel) (by decide +kernel)
set_option maxRecDepth 20000 in
theorem gX4_total_X4_fees : GoodIn wsX4_total (wsV RX4 168 RX4 yX4_fees wsX4_fees) := goodIn_app (goodIn_of _ (by decide +kernel)) ggX4_total_X4_fees
theorem dX4_total_0 : decode cX4_total 0 = .ok (.iload_n 1, 1) := by decide +kernel
theorem dX4_total_1 : decode cX4_total 1 = .ok (.tableswitch 103 0 9 #[55, 60, 65, 65, 65, 65, 65, 77, 85, 98], 55) := by decide +kernel
theorem dX4_total_56 : decode cX4_total 56 = .ok (.aload_n 0, 1) := by decide +kernel
theorem dX4_total_57 : decode cX4_total 57 = .ok (.invokevirtual 43, 3) := by decide +kernel
theorem dX4_total_60 : decode cX4_total 60 = .ok (.ireturn, 1) := by decide +kernel
theorem dX4_total_61 : decode cX4_total 61 = .ok (.aload_n 0, 1) := by decide +kernel
theorem dX4_total_62 : decode cX4_total 62 = .ok (.invokevirtual 165, 3) := by decide +kernel
theorem dX4_total_65 : decode cX4_total 65 = .ok (.ireturn, 1) := by decide +kernel
theorem dX4_total_66 : decode cX4_total 66 = .ok (.aload_n 0, 1) := by decide +kernel
theorem dX4_total_67 : decode cX4_total 67 = .ok (.getfield 7, 3) := by decide +kernel
theorem dX4_total_70 : decode cX4_total 70 = .ok (.bipush 7, 2) := by decide +kernel
theorem dX4_total_72 : decode cX4_total 72 = .ok (.iload_n 1, 1) := by decide +kernel
theorem dX4_total_73 : decode cX4_total 73 = .ok (.iadd, 1) := by decide +kernel
theorem dX4_total_74 : decode cX4_total 74 = .ok (.iconst 2, 1) := by decide +kernel
theorem dX4_total_75 : decode cX4_total 75 = .ok (.isub, 1) := by decide +kernel
theorem dX4_total_76 : decode cX4_total 76 = .ok (.iaload, 1) := by decide +kernel
theorem dX4_total_77 : decode cX4_total 77 = .ok (.ireturn, 1) := by decide +kernel
theorem dX4_total_78 : decode cX4_total 78 = .ok (.aload_n 0, 1) := by decide +kernel
theorem dX4_total_79 : decode cX4_total 79 = .ok (.getfield 7, 3) := by decide +kernel
