theorem dX4_total_82 : decode cX4_total 82 = .ok (.bipush 6, 2) := by decide +kernel
theorem dX4_total_84 : decode cX4_total 84 = .ok (.iaload, 1) := by decide +kernel
theorem dX4_total_85 : decode cX4_total 85 = .ok (.ireturn, 1) := by decide +kernel
theorem dX4_total_86 : decode cX4_total 86 = .ok (.aload_n 0, 1) := by decide +kernel
theorem dX4_total_87 : decode cX4_total 87 = .ok (.invokevirtual 108, 3) := by decide +kernel
theorem dX4_total_90 : decode cX4_total 90 = .ok (.ifCond .eq 7, 3) := by decide +kernel
theorem dX4_total_93 : decode cX4_total 93 = .ok (.iconst 1, 1) := by decide +kernel
theorem dX4_total_94 : decode cX4_total 94 = .ok (.goto 4, 3) := by decide +kernel
theorem dX4_total_97 : decode cX4_total 97 = .ok (.iconst 0, 1) := by decide +kernel
theorem dX4_total_98 : decode cX4_total 98 = .ok (.ireturn, 1) := by decide +kernel
theorem dX4_total_99 : decode cX4_total 99 = .ok (.aload_n 0, 1) := by decide +kernel
theorem dX4_total_100 : decode cX4_total 100 = .ok (.invokevirtual 168, 3) := by decide +kernel
theorem dX4_total_103 : decode cX4_total 103 = .ok (.ireturn, 1) := by decide +kernel
theorem dX4_total_104 : decode cX4_total 104 = .ok (.bipush (-2), 2) := by decide +kernel
theorem dX4_total_106 : decode cX4_total 106 = .ok (.ireturn, 1) := by decide +kernel
theorem dX4_refusal_0 : decode cX4_refusal 0 = .ok (.iload_n 1, 1) := by decide +kernel
theorem dX4_refusal_1 : decode cX4_refusal 1 = .ok (.ifCond .ne 10, 3) := by decide +kernel
theorem dX4_refusal_4 : decode cX4_refusal 4 = .ok (.aload_n 0, 1) := by decide +kernel
theorem dX4_refusal_5 : decode cX4_refusal 5 = .ok (.getfield 22, 3) := by decide +kernel
theorem dX4_refusal_8 : decode cX4_refusal 8 = .ok (.goto 17, 3) := by decide +kernel
theorem dX4_refusal_11 : decode cX4_refusal 11 = .ok (.iload_n 1, 1) := by decide +kernel
theorem dX4_refusal_12 : decode cX4_refusal 12 = .ok (.iconst 1, 1) := by decide +kernel
theorem dX4_refusal_13 : decode cX4_refusal 13 = .ok (.if_icmp .ne 10, 3) := by decide +kernel
theorem dX4_refusal_16 : decode cX4_refusal 16 = .ok (.aload_n 0, 1) := by decide +kernel
theorem dX4_refusal_17 : decode cX4_refusal 17 = .ok (.getfield 26, 3) := by decide +kernel
theorem dX4_refusal_20 : decode cX4_refusal 20 = .ok (.goto 5, 3) := by decide +kernel
theorem dX4_refusal_23 : decode cX4_refusal 23 = .ok (.bipush (-2), 2) := by decide +kernel
theorem dX4_refusal_25 : decode cX4_refusal 25 = .ok (.ireturn, 1) := by decide +kernel
set_option maxRecDepth 20000 in
theorem ggX4_isCode_X4_in : GoodIn wsX4_isCode wsX4_in := goodIn_r _ [4] (by decide +kernel) (by decide +kernel)
set_option maxRecDepth 20000 in
theorem gX4_isCode_X4_in : GoodIn wsX4_isCode (va_wsS RX4 50 yX4_in wsX4_in) := goodIn_app (goodIn_of _ (by decide +kernel)) ggX4_isCode_X4_in
set_option maxRecDepth 20000 in
theorem ggX4_isCode_X4_indexOf : GoodIn wsX4_isCode wsX4_indexOf := goodIn_r _ [7, 1, 2, 3, 4, 8, 9, 10] (by decide +kernel) (by decide +kernel)
set_option maxRecDepth 20000 in
theorem gX4_isCode_X4_indexOf : GoodIn wsX4_isCode (va_wsS RX4 65 yX4_indexOf wsX4_indexOf) := goodIn_app (goodIn_of _ (by decide +kernel)) ggX4_isCode_X4_indexOf
theorem dX4_isCode_0 : decode cX4_isCode 0 = .ok (.iload_n 1, 1) := by decide +kernel
theorem dX4_isCode_1 : decode cX4_isCode 1 = .ok (.iconst 0, 1) := by decide +kernel
theorem dX4_isCode_2 : decode cX4_isCode 2 = .ok (.sipush 9999, 3) := by decide +kernel
theorem dX4_isCode_5 : decode cX4_isCode 5 = .ok (.invokestatic 50, 3) := by decide +kernel
theorem dX4_isCode_8 : decode cX4_isCode 8 = .ok (.ifCond .ne 8, 3) := by decide +kernel
theorem dX4_isCode_11 : decode cX4_isCode 11 = .ok (.bipush (-2), 2) := by decide +kernel
theorem dX4_isCode_13 : decode cX4_isCode 13 = .ok (.goto 17, 3) := by decide +kernel
theorem dX4_isCode_16 : decode cX4_isCode 16 = .ok (.iload_n 1, 1) := by decide +kernel
theorem dX4_isCode_17 : decode cX4_isCode 17 = .ok (.invokestatic 65, 3) := by decide +kernel
theorem dX4_isCode_20 : decode cX4_isCode 20 = .ok (.bipush (-6), 2) := by decide +kernel
theorem dX4_isCode_22 : decode cX4_isCode 22 = .ok (.if_icmp .ne 7, 3) := by decide +kernel
theorem dX4_isCode_25 : decode cX4_isCode 25 = .ok (.iconst 0, 1) := by decide +kernel
theorem dX4_isCode_26 : decode cX4_isCode 26 = .ok (.goto 4, 3) := by decide +kernel
theorem dX4_isCode_29 : decode cX4_isCode 29 = .ok (.iconst 1, 1) := by decide +kernel
theorem dX4_isCode_30 : decode cX4_isCode 30 = .ok (.ireturn, 1) := by decide +kernel
set_option maxRecDepth 20000 in
theorem ggX4_codeOf_X4_isPlace : GoodIn wsX4_codeOf wsX4_isPlace := goodIn_r _ [4, 5, 6, 3, 7] (by decide +kernel) (by decide +kernel)
set_option maxRecDepth 20000 in
theorem gX4_codeOf_X4_isPlace : GoodIn wsX4_codeOf (va_wsS RX4 162 yX4_isPlace wsX4_isPlace) := goodIn_app (goodIn_of _ (by decide +kernel)) ggX4_codeOf_X4_isPlace
set_option maxRecDepth 20000 in
theorem ggX4_codeOf_X4_in : GoodIn wsX4_codeOf wsX4_in := goodIn_r _ [7] (by decide +kernel) (by decide +kernel)
set_option maxRecDepth 20000 in
theorem gX4_codeOf_X4_in : GoodIn wsX4_codeOf (va_wsS RX4 50 yX4_in wsX4_in) := goodIn_app (goodIn_of _ (by decide +kernel)) ggX4_codeOf_X4_in
set_option maxRecDepth 20000 in
theorem ggX4_codeOf_X4_weekday : GoodIn wsX4_codeOf wsX4_weekday := goodIn_r _ [10] (by decide +kernel) (by decide +kernel)
set_option maxRecDepth 20000 in
theorem gX4_codeOf_X4_weekday : GoodIn wsX4_codeOf (va_wsS RX4 73 yX4_weekday wsX4_weekday) := goodIn_app (goodIn_of _ (by decide +kernel)) ggX4_codeOf_X4_weekday
set_option maxRecDepth 20000 in
theorem ggX4_codeOf_X4_codeBy : GoodIn wsX4_codeOf wsX4_codeBy := goodIn_r _ [13] (by decide +kernel) (by decide +kernel)
set_option maxRecDepth 20000 in
theorem gX4_codeOf_X4_codeBy : GoodIn wsX4_codeOf (va_wsS RX4 62 yX4_codeBy wsX4_codeBy) := goodIn_app (goodIn_of _ (by decide +kernel)) ggX4_codeOf_X4_codeBy
theorem dX4_codeOf_0 : decode cX4_codeOf 0 = .ok (.iload_n 2, 1) := by decide +kernel
theorem dX4_codeOf_1 : decode cX4_codeOf 1 = .ok (.iload_n 3, 1) := by decide +kernel
theorem dX4_codeOf_2 : decode cX4_codeOf 2 = .ok (.invokestatic 162, 3) := by decide +kernel
theorem dX4_codeOf_5 : decode cX4_codeOf 5 = .ok (.ifCond .ne 5, 3) := by decide +kernel
theorem dX4_codeOf_8 : decode cX4_codeOf 8 = .ok (.iconst (-1), 1) := by decide +kernel
theorem dX4_codeOf_9 : decode cX4_codeOf 9 = .ok (.ireturn, 1) := by decide +kernel
theorem dX4_codeOf_10 : decode cX4_codeOf 10 = .ok (.iload_n 1, 1) := by decide +kernel
theorem dX4_codeOf_11 : decode cX4_codeOf 11 = .ok (.iconst 0, 1) := by decide +kernel
theorem dX4_codeOf_12 : decode cX4_codeOf 12 = .ok (.sipush 9999, 3) := by decide +kernel
theorem dX4_codeOf_15 : decode cX4_codeOf 15 = .ok (.invokestatic 50, 3) := by decide +kernel
theorem dX4_codeOf_18 : decode cX4_codeOf 18 = .ok (.ifCond .eq 19, 3) := by decide +kernel
theorem dX4_codeOf_21 : decode cX4_codeOf 21 = .ok (.iload_n 1, 1) := by decide +kernel
theorem dX4_codeOf_22 : decode cX4_codeOf 22 = .ok (.invokestatic 73, 3) := by decide +kernel
theorem dX4_codeOf_25 : decode cX4_codeOf 25 = .ok (.bipush 8, 2) := by decide +kernel
theorem dX4_codeOf_27 : decode cX4_codeOf 27 = .ok (.iload_n 2, 1) := by decide +kernel
theorem dX4_codeOf_28 : decode cX4_codeOf 28 = .ok (.imul, 1) := by decide +kernel
theorem dX4_codeOf_29 : decode cX4_codeOf 29 = .ok (.iload_n 3, 1) := by decide +kernel
theorem dX4_codeOf_30 : decode cX4_codeOf 30 = .ok (.iadd, 1) := by decide +kernel
theorem dX4_codeOf_31 : decode cX4_codeOf 31 = .ok (.invokestatic 62, 3) := by decide +kernel
theorem dX4_codeOf_34 : decode cX4_codeOf 34 = .ok (.goto 5, 3) := by decide +kernel
theorem dX4_codeOf_37 : decode cX4_codeOf 37 = .ok (.bipush (-2), 2) := by decide +kernel
theorem dX4_codeOf_39 : decode cX4_codeOf 39 = .ok (.ireturn, 1) := by decide +kernel
set_option maxRecDepth 20000 in
theorem ggX4_restsUntil_X4_in : GoodIn wsX4_restsUntil wsX4_in := goodIn_r _ [4] (by decide +kernel) (by decide +kernel)
set_option maxRecDepth 20000 in
theorem gX4_restsUntil_X4_in : GoodIn wsX4_restsUntil (va_wsS RX4 50 yX4_in wsX4_in) := goodIn_app (goodIn_of _ (by decide +kernel)) ggX4_restsUntil_X4_in
set_option maxRecDepth 20000 in
theorem ggX4_restsUntil_X4_indexOf : GoodIn wsX4_restsUntil wsX4_indexOf := goodIn_r _ [7, 1, 2, 3, 4, 8, 9, 10] (by decide +kernel) (by decide +kernel)
set_option maxRecDepth 20000 in
theorem gX4_restsUntil_X4_indexOf : GoodIn wsX4_restsUntil (va_wsS RX4 65 yX4_indexOf wsX4_indexOf) := goodIn_app (goodIn_of _ (by decide +kernel)) ggX4_restsUntil_X4_indexOf
set_option maxRecDepth 20000 in
theorem ggX4_restsUntil_X4_restsOf : GoodIn wsX4_restsUntil wsX4_restsOf := goodIn_r _ [14, 15, 16, 17, 18, 19, 20, 21, 22, 23, 24, 25, 26, 27, 28, 29] (by decide +kernel) (by decide +kernel)
set_option maxRecDepth 20000 in
theorem gX4_restsUntil_X4_restsOf : GoodIn wsX4_restsUntil (wsV RX4 76 RX4 yX4_restsOf wsX4_restsOf) := goodIn_app (goodIn_of _ (by decide +kernel)) ggX4_restsUntil_X4_restsOf
theorem dX4_restsUntil_0 : decode cX4_restsUntil 0 = .ok (.iload_n 1, 1) := by decide +kernel
theorem dX4_restsUntil_1 : decode cX4_restsUntil 1 = .ok (.iconst 0, 1) := by decide +kernel
theorem dX4_restsUntil_2 : decode cX4_restsUntil 2 = .ok (.sipush 9999, 3) := by decide +kernel
theorem dX4_restsUntil_5 : decode cX4_restsUntil 5 = .ok (.invokestatic 50, 3) := by decide +kernel
theorem dX4_restsUntil_8 : decode cX4_restsUntil 8 = .ok (.ifCond .eq 14, 3) := by decide +kernel
theorem dX4_restsUntil_11 : decode cX4_restsUntil 11 = .ok (.aload_n 0, 1) := by decide +kernel
theorem dX4_restsUntil_12 : decode cX4_restsUntil 12 = .ok (.iload_n 1, 1) := by decide +kernel
theorem dX4_restsUntil_13 : decode cX4_restsUntil 13 = .ok (.invokestatic 65, 3) := by decide +kernel
theorem dX4_restsUntil_16 : decode cX4_restsUntil 16 = .ok (.invokevirtual 76, 3) := by decide +kernel
theorem dX4_restsUntil_19 : decode cX4_restsUntil 19 = .ok (.goto 5, 3) := by decide +kernel
theorem dX4_restsUntil_22 : decode cX4_restsUntil 22 = .ok (.bipush (-2), 2) := by decide +kernel
theorem dX4_restsUntil_24 : decode cX4_restsUntil 24 = .ok (.ireturn, 1) := by decide +kernel
set_option maxRecDepth 20000 in
theorem ggX4_nextCode_X4_in : GoodIn wsX4_nextCode wsX4_in := goodIn_r _ [5] (by decide +kernel) (by decide +kernel)
set_option maxRecDepth 20000 in
theorem gX4_nextCode_X4_in : GoodIn wsX4_nextCode (va_wsS RX4 50 yX4_in wsX4_in) := goodIn_app (goodIn_of _ (by decide +kernel)) ggX4_nextCode_X4_in
set_option maxRecDepth 20000 in
theorem ggX4_nextCode_X4_firstPlace : GoodIn wsX4_nextCode wsX4_firstPlace := goodIn_r _ [9, 10, 11, 12, 4, 13, 14, 15, 16, 17, 1, 18, 19, 20, 21, 22, 23, 24, 25, 26, 27, 28, 32, 33, 34, 35, 36, 37, 38, 39, 40, 41, 42, 43, 44, 45] (by decide +kernel) (by decide +kernel)
set_option maxRecDepth 20000 in
theorem gX4_nextCode_X4_firstPlace : GoodIn wsX4_nextCode (wsV RX4 89 RX4 yX4_firstPlace wsX4_firstPlace) := goodIn_app (goodIn_of _ (by decide +kernel)) ggX4_nextCode_X4_firstPlace
set_option maxRecDepth 20000 in
theorem ggX4_nextCode_X4_weekday : GoodIn wsX4_nextCode wsX4_weekday := goodIn_r _ [24] (by decide +kernel) (by decide +kernel)
set_option maxRecDepth 20000 in
theorem gX4_nextCode_X4_weekday : GoodIn wsX4_nextCode (va_wsS RX4 73 yX4_weekday wsX4_weekday) := goodIn_app (goodIn_of _ (by decide +kernel)) ggX4_nextCode_X4_weekday
set_option maxRecDepth 20000 in
theorem ggX4_nextCode_X4_codeBy : GoodIn wsX4_nextCode wsX4_codeBy := goodIn_r _ [31] (by decide +kernel) (by decide +kernel)
set_option maxRecDepth 20000 in
theorem gX4_nextCode_X4_codeBy : GoodIn wsX4_nextCode (va_wsS RX4 62 yX4_codeBy wsX4_codeBy) := goodIn_app (goodIn_of _ (by decide +kernel)) ggX4_nextCode_X4_codeBy
theorem dX4_nextCode_0 : decode cX4_nextCode 0 = .ok (.iload_n 1, 1) := by decide +kernel
theorem dX4_nextCode_1 : decode cX4_nextCode 1 = .ok (.iconst 0, 1) := by decide +kernel
theorem dX4_nextCode_2 : decode cX4_nextCode 2 = .ok (.iconst 2, 1) := by decide +kernel
theorem dX4_nextCode_3 : decode cX4_nextCode 3 = .ok (.invokestatic 50, 3) := by decide +kernel
theorem dX4_nextCode_6 : decode cX4_nextCode 6 = .ok (.ifCond .ne 6, 3) := by decide +kernel
theorem dX4_nextCode_9 : decode cX4_nextCode 9 = .ok (.bipush (-2), 2) := by decide +kernel
theorem dX4_nextCode_11 : decode cX4_nextCode 11 = .ok (.ireturn, 1) := by decide +kernel
theorem dX4_nextCode_12 : decode cX4_nextCode 12 = .ok (.aload_n 0, 1) := by decide +kernel
theorem dX4_nextCode_13 : decode cX4_nextCode 13 = .ok (.iconst 2, 1) := by decide +kernel
theorem dX4_nextCode_14 : decode cX4_nextCode 14 = .ok (.iload_n 1, 1) := by decide +kernel
theorem dX4_nextCode_15 : decode cX4_nextCode 15 = .ok (.imul, 1) := by decide +kernel
theorem dX4_nextCode_16 : decode cX4_nextCode 16 = .ok (.iconst 5, 1) := by decide +kernel
theorem dX4_nextCode_17 : decode cX4_nextCode 17 = .ok (.invokevirtual 89, 3) := by decide +kernel
theorem dX4_nextCode_20 : decode cX4_nextCode 20 = .ok (.istore_n 2, 1) := by decide +kernel
theorem dX4_nextCode_21 : decode cX4_nextCode 21 = .ok (.iload_n 2, 1) := by decide +kernel
theorem dX4_nextCode_22 : decode cX4_nextCode 22 = .ok (.bipush (-6), 2) := by decide +kernel
theorem dX4_nextCode_24 : decode cX4_nextCode 24 = .ok (.if_icmp .ne 8, 3) := by decide +kernel
theorem dX4_nextCode_27 : decode cX4_nextCode 27 = .ok (.bipush (-6), 2) := by decide +kernel
theorem dX4_nextCode_29 : decode cX4_nextCode 29 = .ok (.goto 16, 3) := by decide +kernel
theorem dX4_nextCode_32 : decode cX4_nextCode 32 = .ok (.aload_n 0, 1) := by decide +kernel
theorem dX4_nextCode_33 : decode cX4_nextCode 33 = .ok (.getfield 7, 3) := by decide +kernel
theorem dX4_nextCode_36 : decode cX4_nextCode 36 = .ok (.iconst 5, 1) := by decide +kernel
theorem dX4_nextCode_37 : decode cX4_nextCode 37 = .ok (.iaload, 1) := by decide +kernel
theorem dX4_nextCode_38 : decode cX4_nextCode 38 = .ok (.invokestatic 73, 3) := by decide +kernel
theorem dX4_nextCode_41 : decode cX4_nextCode 41 = .ok (.iload_n 2, 1) := by decide +kernel
theorem dX4_nextCode_42 : decode cX4_nextCode 42 = .ok (.invokestatic 62, 3) := by decide +kernel
theorem dX4_nextCode_45 : decode cX4_nextCode 45 = .ok (.ireturn, 1) := by decide +kernel
set_option maxRecDepth 20000 in
theorem ggX4_feeIn_X4_placeBy : GoodIn wsX4_feeIn wsX4_placeBy := goodIn_r _ [6, 7, 8, 5, 9, 10, 11, 12, 13, 14, 15, 16, 17, 18, 19, 20, 21, 22, 23, 1, 28, 29, 30, 31, 32, 33, 34, 35, 36, 37, 38, 39, 40, 41] (by decide +kernel) (by decide +kernel)
set_option maxRecDepth 20000 in
theorem gX4_feeIn_X4_placeBy : GoodIn wsX4_feeIn (wsV RX4 112 RX4 yX4_placeBy wsX4_placeBy) := goodIn_app (goodIn_of _ (by decide +kernel)) ggX4_feeIn_X4_placeBy
set_option maxRecDepth 20000 in
theorem ggX4_feeIn_X4_in : GoodIn wsX4_feeIn wsX4_in := goodIn_r _ [12] (by decide +kernel) (by decide +kernel)
set_option maxRecDepth 20000 in
theorem gX4_feeIn_X4_in : GoodIn wsX4_feeIn (va_wsS RX4 50 yX4_in wsX4_in) := goodIn_app (goodIn_of _ (by decide +kernel)) ggX4_feeIn_X4_in
set_option maxRecDepth 20000 in
theorem ggX4_feeIn_X4_feeOn : GoodIn wsX4_feeIn wsX4_feeOn := goodIn_r _ [27, 1, 20, 21, 22, 5, 23, 28, 29, 30, 31, 32, 33, 34, 35, 36, 37, 38, 39, 40, 41] (by decide +kernel) (by decide +kernel)
set_option maxRecDepth 20000 in
theorem gX4_feeIn_X4_feeOn : GoodIn wsX4_feeIn (wsV RX4 115 RX4 yX4_feeOn wsX4_feeOn) := goodIn_app (goodIn_of _ (by decide +kernel)) ggX4_feeIn_X4_feeOn
theorem dX4_feeIn_0 : decode cX4_feeIn 0 = .ok (.aload_n 0, 1) := by decide +kernel
theorem dX4_feeIn_1 : decode cX4_feeIn 1 = .ok (.iload_n 1, 1) := by decide +kernel
theorem dX4_feeIn_2 : decode cX4_feeIn 2 = .ok (.invokevirtual 112, 3) := by decide +kernel
theorem dX4_feeIn_5 : decode cX4_feeIn 5 = .ok (.istore_n 3, 1) := by decide +kernel
theorem dX4_feeIn_6 : decode cX4_feeIn 6 = .ok (.iload_n 3, 1) := by decide +kernel
theorem dX4_feeIn_7 : decode cX4_feeIn 7 = .ok (.bipush (-6), 2) := by decide +kernel
theorem dX4_feeIn_9 : decode cX4_feeIn 9 = .ok (.if_icmp .ne 5, 3) := by decide +kernel
theorem dX4_feeIn_12 : decode cX4_feeIn 12 = .ok (.iconst (-1), 1) := by decide +kernel
theorem dX4_feeIn_13 : decode cX4_feeIn 13 = .ok (.ireturn, 1) := by decide +kernel
theorem dX4_feeIn_14 : decode cX4_feeIn 14 = .ok (.iload_n 2, 1) := by decide +kernel
theorem dX4_feeIn_15 : decode cX4_feeIn 15 = .ok (.iconst 0, 1) := by decide +kernel
theorem dX4_feeIn_16 : decode cX4_feeIn 16 = .ok (.bipush 99, 2) := by decide +kernel
theorem dX4_feeIn_18 : decode cX4_feeIn 18 = .ok (.invokestatic 50, 3) := by decide +kernel
theorem dX4_feeIn_21 : decode cX4_feeIn 21 = .ok (.ifCond .eq 19, 3) := by decide +kernel
theorem dX4_feeIn_24 : decode cX4_feeIn 24 = .ok (.aload_n 0, 1) := by decide +kernel
theorem dX4_feeIn_25 : decode cX4_feeIn 25 = .ok (.iload_n 3, 1) := by decide +kernel
theorem dX4_feeIn_26 : decode cX4_feeIn 26 = .ok (.aload_n 0, 1) := by decide +kernel
theorem dX4_feeIn_27 : decode cX4_feeIn 27 = .ok (.getfield 7, 3) := by decide +kernel
theorem dX4_feeIn_30 : decode cX4_feeIn 30 = .ok (.iconst 5, 1) := by decide +kernel
theorem dX4_feeIn_31 : decode cX4_feeIn 31 = .ok (.iaload, 1) := by decide +kernel
theorem dX4_feeIn_32 : decode cX4_feeIn 32 = .ok (.iload_n 2, 1) := by decide +kernel
theorem dX4_feeIn_33 : decode cX4_feeIn 33 = .ok (.iadd, 1) := by decide +kernel
theorem dX4_feeIn_34 : decode cX4_feeIn 34 = .ok (.invokevirtual 115, 3) := by decide +kernel
theorem dX4_feeIn_37 : decode cX4_feeIn 37 = .ok (.goto 5, 3) := by decide +kernel
theorem dX4_feeIn_40 : decode cX4_feeIn 40 = .ok (.bipush (-2), 2) := by decide +kernel
theorem dX4_feeIn_42 : decode cX4_feeIn 42 = .ok (.ireturn, 1) := by decide +kernel
set_option maxRecDepth 20000 in
theorem ggX4_goesIn_X4_placeBy : GoodIn wsX4_goesIn wsX4_placeBy := goodIn_r _ [5, 6, 7, 4, 8, 9, 10, 11, 12, 13, 14, 15, 16, 17, 18, 19, 20, 21, 22, 23, 57, 58, 59, 60, 61, 62, 63, 64, 65, 66, 67, 68, 69, 70] (by decide +kernel) (by decide +kernel)
set_option maxRecDepth 20000 in
theorem gX4_goesIn_X4_placeBy : GoodIn wsX4_goesIn (wsV RX4 112 RX4 yX4_placeBy wsX4_placeBy) := goodIn_app (goodIn_of _ (by decide +kernel)) ggX4_goesIn_X4_placeBy
set_option maxRecDepth 20000 in
theorem ggX4_goesIn_X4_putAside : GoodIn wsX4_goesIn wsX4_putAside := goodIn_r _ [27, 28, 23, 57, 58, 59, 60, 61, 62, 63, 64, 65, 66, 67, 68, 69, 70] (by decide +kernel) (by decide +kernel)
set_option maxRecDepth 20000 in
theorem gX4_goesIn_X4_putAside : GoodIn wsX4_goesIn (wsV RX4 171 RX4 yX4_putAside wsX4_putAside) := goodIn_app (goodIn_of _ (by decide +kernel)) ggX4_goesIn_X4_putAside
set_option maxRecDepth 20000 in
theorem ggX4_goesIn_X4_isTaken : GoodIn wsX4_goesIn wsX4_isTaken := goodIn_r _ [18, 19, 20, 21, 4, 22, 23, 57, 58, 59, 60, 61, 62, 63, 64, 65, 66, 67, 68, 69, 70] (by decide +kernel) (by decide +kernel)
set_option maxRecDepth 20000 in
theorem gX4_goesIn_X4_isTaken : GoodIn wsX4_goesIn (wsV RX4 69 RX4 yX4_isTaken wsX4_isTaken) := goodIn_app (goodIn_of _ (by decide +kernel)) ggX4_goesIn_X4_isTaken
set_option maxRecDepth 20000 in
theorem ggX4_goesIn_X4_begins : GoodIn wsX4_goesIn wsX4_begins := goodIn_r _ [32, 23, 33, 34, 35, 4, 36, 37, 38, 39, 40, 41, 42, 43, 44, 15, 16, 17, 18, 19, 20, 21, 22, 45, 46, 47, 48, 49, 50, 51, 52, 57, 58, 59, 60, 61, 62, 63, 64, 65, 66, 67, 68, 69, 70] (by decide +kernel) (by decide +kernel)
set_option maxRecDepth 20000 in
theorem gX4_goesIn_X4_begins : GoodIn wsX4_goesIn (wsV RX4 153 RX4 yX4_begins wsX4_begins) := goodIn_app (goodIn_of _ (by decide +kernel)) ggX4_goesIn_X4_begins
set_option maxRecDepth 20000 in
theorem ggX4_goesIn_X4_takeBack : GoodIn wsX4_goesIn wsX4_takeBack := goodIn_r _ [56, 23, 28, 57, 58, 59, 60, 61, 62, 63, 64, 65, 66, 67, 68, 69, 70] (by decide +kernel) (by decide +kernel)
set_option maxRecDepth 20000 in
theorem gX4_goesIn_X4_takeBack : GoodIn wsX4_goesIn (wsV RX4 174 RX4 yX4_takeBack wsX4_takeBack) := goodIn_app (goodIn_of _ (by decide +kernel)) ggX4_goesIn_X4_takeBack
theorem dX4_goesIn_0 : decode cX4_goesIn 0 = .ok (.aload_n 0, 1) := by decide +kernel
theorem dX4_goesIn_1 : decode cX4_goesIn 1 = .ok (.iload_n 1, 1) := by decide +kernel
theorem dX4_goesIn_2 : decode cX4_goesIn 2 = .ok (.invokevirtual 112, 3) := by decide +kernel
theorem dX4_goesIn_5 : decode cX4_goesIn 5 = .ok (.istore_n 2, 1) := by decide +kernel
theorem dX4_goesIn_6 : decode cX4_goesIn 6 = .ok (.iload_n 2, 1) := by decide +kernel
theorem dX4_goesIn_7 : decode cX4_goesIn 7 = .ok (.bipush (-6), 2) := by decide +kernel
theorem dX4_goesIn_9 : decode cX4_goesIn 9 = .ok (.if_icmp .ne 5, 3) := by decide +kernel
theorem dX4_goesIn_12 : decode cX4_goesIn 12 = .ok (.iconst (-1), 1) := by decide +kernel
theorem dX4_goesIn_13 : decode cX4_goesIn 13 = .ok (.ireturn, 1) := by decide +kernel
theorem dX4_goesIn_14 : decode cX4_goesIn 14 = .ok (.aload_n 0, 1) := by decide +kernel
theorem dX4_goesIn_15 : decode cX4_goesIn 15 = .ok (.invokevirtual 171, 3) := by decide +kernel
theorem dX4_goesIn_18 : decode cX4_goesIn 18 = .ok (.iconst 0, 1) := by decide +kernel
theorem dX4_goesIn_19 : decode cX4_goesIn 19 = .ok (.istore_n 3, 1) := by decide +kernel
theorem dX4_goesIn_20 : decode cX4_goesIn 20 = .ok (.iload_n 3, 1) := by decide +kernel
theorem dX4_goesIn_21 : decode cX4_goesIn 21 = .ok (.bipush 60, 2) := by decide +kernel
theorem dX4_goesIn_23 : decode cX4_goesIn 23 = .ok (.if_icmp .ge 22, 3) := by decide +kernel
theorem dX4_goesIn_26 : decode cX4_goesIn 26 = .ok (.aload_n 0, 1) := by decide +kernel
theorem dX4_goesIn_27 : decode cX4_goesIn 27 = .ok (.iload_n 2, 1) := by decide +kernel
theorem dX4_goesIn_28 : decode cX4_goesIn 28 = .ok (.invokevirtual 69, 3) := by decide +kernel
theorem dX4_goesIn_31 : decode cX4_goesIn 31 = .ok (.ifCond .eq 14, 3) := by decide +kernel
theorem dX4_goesIn_34 : decode cX4_goesIn 34 = .ok (.aload_n 0, 1) := by decide +kernel
theorem dX4_goesIn_35 : decode cX4_goesIn 35 = .ok (.invokevirtual 153, 3) := by decide +kernel
theorem dX4_goesIn_38 : decode cX4_goesIn 38 = .ok (.pop, 1) := by decide +kernel
theorem dX4_goesIn_39 : decode cX4_goesIn 39 = .ok (.iinc 3 1, 3) := by decide +kernel
theorem dX4_goesIn_42 : decode cX4_goesIn 42 = .ok (.goto (-22), 3) := by decide +kernel
theorem dX4_goesIn_45 : decode cX4_goesIn 45 = .ok (.aload_n 0, 1) := by decide +kernel
theorem dX4_goesIn_46 : decode cX4_goesIn 46 = .ok (.iload_n 2, 1) := by decide +kernel
theorem dX4_goesIn_47 : decode cX4_goesIn 47 = .ok (.invokevirtual 69, 3) := by decide +kernel
theorem dX4_goesIn_50 : decode cX4_goesIn 50 = .ok (.ifCond .ne 7, 3) := by decide +kernel
theorem dX4_goesIn_53 : decode cX4_goesIn 53 = .ok (.iconst 1, 1) := by decide +kernel
theorem dX4_goesIn_54 : decode cX4_goesIn 54 = .ok (.goto 4, 3) := by decide +kernel
theorem dX4_goesIn_57 : decode cX4_goesIn 57 = .ok (.iconst 0, 1) := by decide +kernel
theorem dX4_goesIn_58 : decode cX4_goesIn 58 = .ok (.istore 4, 2) := by decide +kernel
theorem dX4_goesIn_60 : decode cX4_goesIn 60 = .ok (.aload_n 0, 1) := by decide +kernel
theorem dX4_goesIn_61 : decode cX4_goesIn 61 = .ok (.invokevirtual 174, 3) := by decide +kernel
theorem dX4_goesIn_64 : decode cX4_goesIn 64 = .ok (.iload 4, 2) := by decide +kernel
theorem dX4_goesIn_66 : decode cX4_goesIn 66 = .ok (.ifCond .eq 7, 3) := by decide +kernel
theorem dX4_goesIn_69 : decode cX4_goesIn 69 = .ok (.iload_n 3, 1) := by decide +kernel
theorem dX4_goesIn_70 : decode cX4_goesIn 70 = .ok (.goto 5, 3) := by decide +kernel
theorem dX4_goesIn_73 : decode cX4_goesIn 73 = .ok (.bipush (-6), 2) := by decide +kernel
theorem dX4_goesIn_75 : decode cX4_goesIn 75 = .ok (.ireturn, 1) := by decide +kernel
set_option maxRecDepth 20000 in
theorem ggX4_chargesIn_X4_in : GoodIn wsX4_chargesIn wsX4_in := goodIn_r _ [5] (by decide +kernel) (by decide +kernel)
set_option maxRecDepth 20000 in
theorem gX4_chargesIn_X4_in : GoodIn wsX4_chargesIn (va_wsS RX4 50 yX4_in wsX4_in) := goodIn_app (goodIn_of _ (by decide +kernel)) ggX4_chargesIn_X4_in
set_option maxRecDepth 20000 in
theorem ggX4_chargesIn_X4_putAside : GoodIn wsX4_chargesIn wsX4_putAside := goodIn_r _ [9, 10, 1, 51, 52, 53, 54, 55, 56, 57, 58, 59, 60, 61, 62, 63, 64] (by decide +kernel) (by decide +kernel)
set_option maxRecDepth 20000 in
theorem gX4_chargesIn_X4_putAside : GoodIn wsX4_chargesIn (wsV RX4 171 RX4 yX4_putAside wsX4_putAside) := goodIn_app (goodIn_of _ (by decide +kernel)) ggX4_chargesIn_X4_putAside
set_option maxRecDepth 20000 in
theorem ggX4_chargesIn_X4_passes : GoodIn wsX4_chargesIn wsX4_passes := goodIn_r _ [14, 15, 16, 17, 4, 18, 1, 19, 20, 21, 22, 23, 24, 25, 26, 27, 28, 29, 30, 31, 32, 33, 34, 35, 36, 37, 38, 39, 40, 41, 42, 43, 44, 45, 46, 51, 52, 53, 54, 55, 56, 57, 58, 59, 60, 61, 62, 63, 64] (by decide +kernel) (by decide +kernel)
set_option maxRecDepth 20000 in
theorem gX4_chargesIn_X4_passes : GoodIn wsX4_chargesIn (wsV RX4 159 RX4 yX4_passes wsX4_passes) := goodIn_app (goodIn_of _ (by decide +kernel)) ggX4_chargesIn_X4_passes
set_option maxRecDepth 20000 in
theorem ggX4_chargesIn_X4_takeBack : GoodIn wsX4_chargesIn wsX4_takeBack := goodIn_r _ [50, 1, 10, 51, 52, 53, 54, 55, 56, 57, 58, 59, 60, 61, 62, 63, 64] (by decide +kernel) (by decide +kernel)
set_option maxRecDepth 20000 in
theorem gX4_chargesIn_X4_takeBack : GoodIn wsX4_chargesIn (wsV RX4 174 RX4 yX4_takeBack wsX4_takeBack) := goodIn_app (goodIn_of _ (by decide +kernel)) ggX4_chargesIn_X4_takeBack
theorem dX4_chargesIn_0 : decode cX4_chargesIn 0 = .ok (.iload_n 1, 1) := by decide +kernel
theorem dX4_chargesIn_1 : decode cX4_chargesIn 1 = .ok (.iconst 1, 1) := by decide +kernel
theorem dX4_chargesIn_2 : decode cX4_chargesIn 2 = .ok (.bipush 30, 2) := by decide +kernel
theorem dX4_chargesIn_4 : decode cX4_chargesIn 4 = .ok (.invokestatic 50, 3) := by decide +kernel
theorem dX4_chargesIn_7 : decode cX4_chargesIn 7 = .ok (.ifCond .ne 6, 3) := by decide +kernel
theorem dX4_chargesIn_10 : decode cX4_chargesIn 10 = .ok (.bipush (-2), 2) := by decide +kernel
theorem dX4_chargesIn_12 : decode cX4_chargesIn 12 = .ok (.ireturn, 1) := by decide +kernel
theorem dX4_chargesIn_13 : decode cX4_chargesIn 13 = .ok (.aload_n 0, 1) := by decide +kernel
theorem dX4_chargesIn_14 : decode cX4_chargesIn 14 = .ok (.invokevirtual 171, 3) := by decide +kernel
theorem dX4_chargesIn_17 : decode cX4_chargesIn 17 = .ok (.aload_n 0, 1) := by decide +kernel
theorem dX4_chargesIn_18 : decode cX4_chargesIn 18 = .ok (.iload_n 1, 1) := by decide +kernel
theorem dX4_chargesIn_19 : decode cX4_chargesIn 19 = .ok (.invokevirtual 159, 3) := by decide +kernel
theorem dX4_chargesIn_22 : decode cX4_chargesIn 22 = .ok (.pop, 1) := by decide +kernel
theorem dX4_chargesIn_23 : decode cX4_chargesIn 23 = .ok (.aload_n 0, 1) := by decide +kernel
theorem dX4_chargesIn_24 : decode cX4_chargesIn 24 = .ok (.getfield 7, 3) := by decide +kernel
theorem dX4_chargesIn_27 : decode cX4_chargesIn 27 = .ok (.bipush 11, 2) := by decide +kernel
theorem dX4_chargesIn_29 : decode cX4_chargesIn 29 = .ok (.iaload, 1) := by decide +kernel
theorem dX4_chargesIn_30 : decode cX4_chargesIn 30 = .ok (.istore_n 2, 1) := by decide +kernel
theorem dX4_chargesIn_31 : decode cX4_chargesIn 31 = .ok (.aload_n 0, 1) := by decide +kernel
theorem dX4_chargesIn_32 : decode cX4_chargesIn 32 = .ok (.invokevirtual 174, 3) := by decide +kernel
theorem dX4_chargesIn_35 : decode cX4_chargesIn 35 = .ok (.iload_n 2, 1) := by decide +kernel
theorem dX4_chargesIn_36 : decode cX4_chargesIn 36 = .ok (.aload_n 0, 1) := by decide +kernel
theorem dX4_chargesIn_37 : decode cX4_chargesIn 37 = .ok (.getfield 7, 3) := by decide +kernel
theorem dX4_chargesIn_40 : decode cX4_chargesIn 40 = .ok (.bipush 11, 2) := by decide +kernel
theorem dX4_chargesIn_42 : decode cX4_chargesIn 42 = .ok (.iaload, 1) := by decide +kernel
theorem dX4_chargesIn_43 : decode cX4_chargesIn 43 = .ok (.isub, 1) := by decide +kernel
theorem dX4_chargesIn_44 : decode cX4_chargesIn 44 = .ok (.ireturn, 1) := by decide +kernel
set_option maxRecDepth 20000 in
theorem ggX4_append_X4_in : GoodIn wsX4_append wsX4_in := goodIn_r _ [6] (by decide +kernel) (by decide +kernel)
set_option maxRecDepth 20000 in
theorem gX4_append_X4_in : GoodIn wsX4_append (va_wsS RX4 50 yX4_in wsX4_in) := goodIn_app (goodIn_of _ (by decide +kernel)) ggX4_append_X4_in
theorem dX4_append_0 : decode cX4_append 0 = .ok (.iload_n 1, 1) := by decide +kernel
theorem dX4_append_1 : decode cX4_append 1 = .ok (.bipush 33, 2) := by decide +kernel
theorem dX4_append_3 : decode cX4_append 3 = .ok (.bipush 126, 2) := by decide +kernel
theorem dX4_append_5 : decode cX4_append 5 = .ok (.invokestatic 50, 3) := by decide +kernel
theorem dX4_append_8 : decode cX4_append 8 = .ok (.ifCond .ne 6, 3) := by decide +kernel
theorem dX4_append_11 : decode cX4_append 11 = .ok (.bipush (-2), 2) := by decide +kernel
theorem dX4_append_13 : decode cX4_append 13 = .ok (.ireturn, 1) := by decide +kernel
theorem dX4_append_14 : decode cX4_append 14 = .ok (.aload_n 0, 1) := by decide +kernel
theorem dX4_append_15 : decode cX4_append 15 = .ok (.getfield 177, 3) := by decide +kernel
theorem dX4_append_18 : decode cX4_append 18 = .ok (.bipush 80, 2) := by decide +kernel
theorem dX4_append_20 : decode cX4_append 20 = .ok (.if_icmp .ne 6, 3) := by decide +kernel
theorem dX4_append_23 : decode cX4_append 23 = .ok (.bipush (-4), 2) := by decide +kernel
theorem dX4_append_25 : decode cX4_append 25 = .ok (.ireturn, 1) := by decide +kernel
theorem dX4_append_26 : decode cX4_append 26 = .ok (.aload_n 0, 1) := by decide +kernel
theorem dX4_append_27 : decode cX4_append 27 = .ok (.getfield 29, 3) := by decide +kernel
theorem dX4_append_30 : decode cX4_append 30 = .ok (.aload_n 0, 1) := by decide +kernel
theorem dX4_append_31 : decode cX4_append 31 = .ok (.getfield 177, 3) := by decide +kernel
theorem dX4_append_34 : decode cX4_append 34 = .ok (.iload_n 1, 1) := by decide +kernel
theorem dX4_append_35 : decode cX4_append 35 = .ok (.i2c, 1) := by decide +kernel
theorem dX4_append_36 : decode cX4_append 36 = .ok (.castore, 1) := by decide +kernel
theorem dX4_append_37 : decode cX4_append 37 = .ok (.aload_n 0, 1) := by decide +kernel
theorem dX4_append_38 : decode cX4_append 38 = .ok (.dup, 1) := by decide +kernel
theorem dX4_append_39 : decode cX4_append 39 = .ok (.getfield 177, 3) := by decide +kernel
theorem dX4_append_42 : decode cX4_append 42 = .ok (.iconst 1, 1) := by decide +kernel
theorem dX4_append_43 : decode cX4_append 43 = .ok (.iadd, 1) := by decide +kernel
theorem dX4_append_44 : decode cX4_append 44 = .ok (.putfield 177, 3) := by decide +kernel
theorem dX4_append_47 : decode cX4_append 47 = .ok (.aload_n 0, 1) := by decide +kernel
theorem dX4_append_48 : decode cX4_append 48 = .ok (.getfield 177, 3) := by decide +kernel
theorem dX4_append_51 : decode cX4_append 51 = .ok (.ireturn, 1) := by decide +kernel
theorem dX4_clearText_0 : decode cX4_clearText 0 = .ok (.aload_n 0, 1) := by decide +kernel
theorem dX4_clearText_1 : decode cX4_clearText 1 = .ok (.getfield 177, 3) := by decide +kernel
theorem dX4_clearText_4 : decode cX4_clearText 4 = .ok (.istore_n 1, 1) := by decide +kernel
theorem dX4_clearText_5 : decode cX4_clearText 5 = .ok (.aload_n 0, 1) := by decide +kernel
theorem dX4_clearText_6 : decode cX4_clearText 6 = .ok (.iconst 0, 1) := by decide +kernel
theorem dX4_clearText_7 : decode cX4_clearText 7 = .ok (.putfield 177, 3) := by decide +kernel
theorem dX4_clearText_10 : decode cX4_clearText 10 = .ok (.iload_n 1, 1) := by decide +kernel
theorem dX4_clearText_11 : decode cX4_clearText 11 = .ok (.ireturn, 1) := by decide +kernel
theorem dX4_letter_0 : decode cX4_letter 0 = .ok (.aload_n 0, 1) := by decide +kernel
theorem dX4_letter_1 : decode cX4_letter 1 = .ok (.getfield 180, 3) := by decide +kernel
theorem dX4_letter_4 : decode cX4_letter 4 = .ok (.aload_n 0, 1) := by decide +kernel
theorem dX4_letter_5 : decode cX4_letter 5 = .ok (.getfield 177, 3) := by decide +kernel
theorem dX4_letter_8 : decode cX4_letter 8 = .ok (.if_icmp .ge 15, 3) := by decide +kernel
theorem dX4_letter_11 : decode cX4_letter 11 = .ok (.aload_n 0, 1) := by decide +kernel
theorem dX4_letter_12 : decode cX4_letter 12 = .ok (.getfield 29, 3) := by decide +kernel
theorem dX4_letter_15 : decode cX4_letter 15 = .ok (.aload_n 0, 1) := by decide +kernel
theorem dX4_letter_16 : decode cX4_letter 16 = .ok (.getfield 180, 3) := by decide +kernel
theorem dX4_letter_19 : decode cX4_letter 19 = .ok (.caload, 1) := by decide +kernel
theorem dX4_letter_20 : decode cX4_letter 20 = .ok (.goto 5, 3) := by decide +kernel
theorem dX4_letter_23 : decode cX4_letter 23 = .ok (.bipush (-6), 2) := by decide +kernel
theorem dX4_letter_25 : decode cX4_letter 25 = .ok (.ireturn, 1) := by decide +kernel
theorem dX4_wants_0 : decode cX4_wants 0 = .ok (.aload_n 0, 1) := by decide +kernel
theorem dX4_wants_1 : decode cX4_wants 1 = .ok (.getfield 183, 3) := by decide +kernel
theorem dX4_wants_4 : decode cX4_wants 4 = .ok (.bipush (-6), 2) := by decide +kernel
theorem dX4_wants_6 : decode cX4_wants 6 = .ok (.if_icmp .ne 30, 3) := by decide +kernel
theorem dX4_wants_9 : decode cX4_wants 9 = .ok (.aload_n 0, 1) := by decide +kernel
theorem dX4_wants_10 : decode cX4_wants 10 = .ok (.iload_n 1, 1) := by decide +kernel
theorem dX4_wants_11 : decode cX4_wants 11 = .ok (.ifCond .eq 8, 3) := by decide +kernel
theorem dX4_wants_14 : decode cX4_wants 14 = .ok (.bipush (-6), 2) := by decide +kernel
theorem dX4_wants_16 : decode cX4_wants 16 = .ok (.goto 7, 3) := by decide +kernel
theorem dX4_wants_19 : decode cX4_wants 19 = .ok (.aload_n 0, 1) := by decide +kernel
theorem dX4_wants_20 : decode cX4_wants 20 = .ok (.getfield 180, 3) := by decide +kernel
theorem dX4_wants_23 : decode cX4_wants 23 = .ok (.putfield 183, 3) := by decide +kernel
theorem dX4_wants_26 : decode cX4_wants 26 = .ok (.aload_n 0, 1) := by decide +kernel
theorem dX4_wants_27 : decode cX4_wants 27 = .ok (.dup, 1) := by decide +kernel
theorem dX4_wants_28 : decode cX4_wants 28 = .ok (.getfield 180, 3) := by decide +kernel
theorem dX4_wants_31 : decode cX4_wants 31 = .ok (.iconst 1, 1) := by decide +kernel
theorem dX4_wants_32 : decode cX4_wants 32 = .ok (.iadd, 1) := by decide +kernel
theorem dX4_wants_33 : decode cX4_wants 33 = .ok (.putfield 180, 3) := by decide +kernel
theorem dX4_wants_36 : decode cX4_wants 36 = .ok (.return_, 1) := by decide +kernel
set_option maxRecDepth 20000 in
theorem ggX4_figure_X4_letter : GoodIn wsX4_figure wsX4_letter := goodIn_r _ [5, 6, 7, 8, 17, 18, 19, 20, 21, 22, 23, 24, 25, 26, 27, 28, 29, 30] (by decide +kernel) (by decide +kernel)
set_option maxRecDepth 20000 in
theorem gX4_figure_X4_letter : GoodIn wsX4_figure (wsV RX4 186 RX4 yX4_letter wsX4_letter) := goodIn_app (goodIn_of _ (by decide +kernel)) ggX4_figure_X4_letter
set_option maxRecDepth 20000 in
theorem ggX4_figure_X4_in : GoodIn wsX4_figure wsX4_in := goodIn_r _ [11] (by decide +kernel) (by decide +kernel)
set_option maxRecDepth 20000 in
theorem gX4_figure_X4_in : GoodIn wsX4_figure (va_wsS RX4 50 yX4_in wsX4_in) := goodIn_app (goodIn_of _ (by decide +kernel)) ggX4_figure_X4_in
set_option maxRecDepth 20000 in
theorem ggX4_figure_X4_wants : GoodIn wsX4_figure wsX4_wants := goodIn_r _ [15, 16, 6, 17, 18, 19, 20, 21, 22, 23, 24, 25, 26, 27, 28, 29, 30] (by decide +kernel) (by decide +kernel)
set_option maxRecDepth 20000 in
theorem gX4_figure_X4_wants : GoodIn wsX4_figure (wsV RX4 189 RX4 yX4_wants wsX4_wants) := goodIn_app (goodIn_of _ (by decide +kernel)) ggX4_figure_X4_wants
theorem dX4_figure_0 : decode cX4_figure 0 = .ok (.aload_n 0, 1) := by decide +kernel
theorem dX4_figure_1 : decode cX4_figure 1 = .ok (.invokevirtual 186, 3) := by decide +kernel
theorem dX4_figure_4 : decode cX4_figure 4 = .ok (.bipush 48, 2) := by decide +kernel
theorem dX4_figure_6 : decode cX4_figure 6 = .ok (.isub, 1) := by decide +kernel
theorem dX4_figure_7 : decode cX4_figure 7 = .ok (.istore_n 3, 1) := by decide +kernel
theorem dX4_figure_8 : decode cX4_figure 8 = .ok (.aload_n 0, 1) := by decide +kernel
theorem dX4_figure_9 : decode cX4_figure 9 = .ok (.iload_n 3, 1) := by decide +kernel
theorem dX4_figure_10 : decode cX4_figure 10 = .ok (.iload_n 1, 1) := by decide +kernel
theorem dX4_figure_11 : decode cX4_figure 11 = .ok (.iload_n 2, 1) := by decide +kernel
theorem dX4_figure_12 : decode cX4_figure 12 = .ok (.invokestatic 50, 3) := by decide +kernel
theorem dX4_figure_15 : decode cX4_figure 15 = .ok (.invokevirtual 189, 3) := by decide +kernel
theorem dX4_figure_18 : decode cX4_figure 18 = .ok (.iload_n 3, 1) := by decide +kernel
theorem dX4_figure_19 : decode cX4_figure 19 = .ok (.ireturn, 1) := by decide +kernel
set_option maxRecDepth 20000 in
theorem ggX4_days_X4_figure : GoodIn wsX4_days wsX4_figure := goodIn_r _ [7, 8, 9, 10, 6, 11, 2, 12, 13, 14, 15, 16, 17, 18, 19, 20, 1, 21, 22, 23, 24, 25, 26, 27, 28, 29, 30, 31, 32, 33, 34] (by decide +kernel) (by decide +kernel)
set_option maxRecDepth 20000 in
theorem gX4_days_X4_figure : GoodIn wsX4_days (wsV RX4 193 RX4 yX4_figure wsX4_figure) := goodIn_app (goodIn_of _ (by decide +kernel)) ggX4_days_X4_figure
set_option maxRecDepth 20000 in
theorem ggX4_days_X4_letter : GoodIn wsX4_days wsX4_letter := goodIn_r _ [11, 2, 12, 13, 21, 22, 23, 24, 25, 26, 27, 28, 29, 30, 31, 32, 33, 34] (by decide +kernel) (by decide +kernel)
set_option maxRecDepth 20000 in
theorem gX4_days_X4_letter : GoodIn wsX4_days (wsV RX4 186 RX4 yX4_letter wsX4_letter) := goodIn_app (goodIn_of _ (by decide +kernel)) ggX4_days_X4_letter
set_option maxRecDepth 20000 in
theorem ggX4_days_X4_in : GoodIn wsX4_days wsX4_in := goodIn_r _ [16] (by decide +kernel) (by decide +kernel)
set_option maxRecDepth 20000 in
theorem gX4_days_X4_in : GoodIn wsX4_days (va_wsS RX4 50 yX4_in wsX4_in) := goodIn_app (goodIn_of _ (by decide +kernel)) ggX4_days_X4_in
theorem dX4_days_0 : decode cX4_days 0 = .ok (.aload_n 0, 1) := by decide +kernel
theorem dX4_days_1 : decode cX4_days 1 = .ok (.iconst 1, 1) := by decide +kernel
theorem dX4_days_2 : decode cX4_days 2 = .ok (.bipush 9, 2) := by decide +kernel
theorem dX4_days_4 : decode cX4_days 4 = .ok (.invokevirtual 193, 3) := by decide +kernel
theorem dX4_days_7 : decode cX4_days 7 = .ok (.istore_n 1, 1) := by decide +kernel
theorem dX4_days_8 : decode cX4_days 8 = .ok (.aload_n 0, 1) := by decide +kernel
theorem dX4_days_9 : decode cX4_days 9 = .ok (.invokevirtual 186, 3) := by decide +kernel
theorem dX4_days_12 : decode cX4_days 12 = .ok (.bipush 48, 2) := by decide +kernel
theorem dX4_days_14 : decode cX4_days 14 = .ok (.isub, 1) := by decide +kernel
theorem dX4_days_15 : decode cX4_days 15 = .ok (.istore_n 2, 1) := by decide +kernel
theorem dX4_days_16 : decode cX4_days 16 = .ok (.aload_n 0, 1) := by decide +kernel
theorem dX4_days_17 : decode cX4_days 17 = .ok (.getfield 183, 3) := by decide +kernel
theorem dX4_days_20 : decode cX4_days 20 = .ok (.bipush (-6), 2) := by decide +kernel
theorem dX4_days_22 : decode cX4_days 22 = .ok (.if_icmp .ne 41, 3) := by decide +kernel
theorem dX4_days_25 : decode cX4_days 25 = .ok (.iload_n 2, 1) := by decide +kernel
theorem dX4_days_26 : decode cX4_days 26 = .ok (.iconst 0, 1) := by decide +kernel
theorem dX4_days_27 : decode cX4_days 27 = .ok (.bipush 9, 2) := by decide +kernel
theorem dX4_days_29 : decode cX4_days 29 = .ok (.invokestatic 50, 3) := by decide +kernel
theorem dX4_days_32 : decode cX4_days 32 = .ok (.ifCond .eq 31, 3) := by decide +kernel
theorem dX4_days_35 : decode cX4_days 35 = .ok (.bipush 10, 2) := by decide +kernel
theorem dX4_days_37 : decode cX4_days 37 = .ok (.iload_n 1, 1) := by decide +kernel
theorem dX4_days_38 : decode cX4_days 38 = .ok (.imul, 1) := by decide +kernel
theorem dX4_days_39 : decode cX4_days 39 = .ok (.iload_n 2, 1) := by decide +kernel
theorem dX4_days_40 : decode cX4_days 40 = .ok (.iadd, 1) := by decide +kernel
theorem dX4_days_41 : decode cX4_days 41 = .ok (.bipush 30, 2) := by decide +kernel
theorem dX4_days_43 : decode cX4_days 43 = .ok (.if_icmp .gt 20, 3) := by decide +kernel
theorem dX4_days_46 : decode cX4_days 46 = .ok (.aload_n 0, 1) := by decide +kernel
theorem dX4_days_47 : decode cX4_days 47 = .ok (.dup, 1) := by decide +kernel
theorem dX4_days_48 : decode cX4_days 48 = .ok (.getfield 180, 3) := by decide +kernel
theorem dX4_days_51 : decode cX4_days 51 = .ok (.iconst 1, 1) := by decide +kernel
theorem dX4_days_52 : decode cX4_days 52 = .ok (.iadd, 1) := by decide +kernel
theorem dX4_days_53 : decode cX4_days 53 = .ok (.putfield 180, 3) := by decide +kernel
theorem dX4_days_56 : decode cX4_days 56 = .ok (.bipush 10, 2) := by decide +kernel
theorem dX4_days_58 : decode cX4_days 58 = .ok (.iload_n 1, 1) := by decide +kernel
theorem dX4_days_59 : decode cX4_days 59 = .ok (.imul, 1) := by decide +kernel
theorem dX4_days_60 : decode cX4_days 60 = .ok (.iload_n 2, 1) := by decide +kernel
theorem dX4_days_61 : decode cX4_days 61 = .ok (.iadd, 1) := by decide +kernel
theorem dX4_days_62 : decode cX4_days 62 = .ok (.ireturn, 1) := by decide +kernel
theorem dX4_days_63 : decode cX4_days 63 = .ok (.iload_n 1, 1) := by decide +kernel
theorem dX4_days_64 : decode cX4_days 64 = .ok (.ireturn, 1) := by decide +kernel
set_option maxRecDepth 20000 in
theorem ggX4_size_X4_letter : GoodIn wsX4_size wsX4_letter := goodIn_r _ [5, 6, 7, 8, 14, 15, 16, 17, 18, 19, 20, 21, 22, 23, 24, 25, 26, 27] (by decide +kernel) (by decide +kernel)
set_option maxRecDepth 20000 in
theorem gX4_size_X4_letter : GoodIn wsX4_size (wsV RX4 186 RX4 yX4_letter wsX4_letter) := goodIn_app (goodIn_of _ (by decide +kernel)) ggX4_size_X4_letter
set_option maxRecDepth 20000 in
theorem ggX4_size_X4_wants : GoodIn wsX4_size wsX4_wants := goodIn_r _ [12, 13, 6, 14, 15, 16, 17, 18, 19, 20, 21, 22, 23, 24, 25, 26, 27] (by decide +kernel) (by decide +kernel)
set_option maxRecDepth 20000 in
theorem gX4_size_X4_wants : GoodIn wsX4_size (wsV RX4 189 RX4 yX4_wants wsX4_wants) := goodIn_app (goodIn_of _ (by decide +kernel)) ggX4_size_X4_wants
theorem dX4_size_0 : decode cX4_size 0 = .ok (.aload_n 0, 1) := by decide +kernel
theorem dX4_size_1 : decode cX4_size 1 = .ok (.invokevirtual 186, 3) := by decide +kernel
theorem dX4_size_4 : decode cX4_size 4 = .ok (.istore_n 1, 1) := by decide +kernel
theorem dX4_size_5 : decode cX4_size 5 = .ok (.aload_n 0, 1) := by decide +kernel
theorem dX4_size_6 : decode cX4_size 6 = .ok (.iload_n 1, 1) := by decide +kernel
theorem dX4_size_7 : decode cX4_size 7 = .ok (.bipush 115, 2) := by decide +kernel
theorem dX4_size_9 : decode cX4_size 9 = .ok (.if_icmp .eq 15, 3) := by decide +kernel
theorem dX4_size_12 : decode cX4_size 12 = .ok (.iload_n 1, 1) := by decide +kernel
theorem dX4_size_13 : decode cX4_size 13 = .ok (.bipush 109, 2) := by decide +kernel
theorem dX4_size_15 : decode cX4_size 15 = .ok (.if_icmp .eq 9, 3) := by decide +kernel
theorem dX4_size_18 : decode cX4_size 18 = .ok (.iload_n 1, 1) := by decide +kernel
theorem dX4_size_19 : decode cX4_size 19 = .ok (.bipush 108, 2) := by decide +kernel
theorem dX4_size_21 : decode cX4_size 21 = .ok (.if_icmp .ne 7, 3) := by decide +kernel
theorem dX4_size_24 : decode cX4_size 24 = .ok (.iconst 1, 1) := by decide +kernel
theorem dX4_size_25 : decode cX4_size 25 = .ok (.goto 4, 3) := by decide +kernel
theorem dX4_size_28 : decode cX4_size 28 = .ok (.iconst 0, 1) := by decide +kernel
theorem dX4_size_29 : decode cX4_size 29 = .ok (.invokevirtual 189, 3) := by decide +kernel
theorem dX4_size_32 : decode cX4_size 32 = .ok (.iload_n 1, 1) := by decide +kernel
theorem dX4_size_33 : decode cX4_size 33 = .ok (.bipush 115, 2) := by decide +kernel
theorem dX4_size_35 : decode cX4_size 35 = .ok (.if_icmp .ne 7, 3) := by decide +kernel
theorem dX4_size_38 : decode cX4_size 38 = .ok (.iconst 0, 1) := by decide +kernel
theorem dX4_size_39 : decode cX4_size 39 = .ok (.goto 14, 3) := by decide +kernel
theorem dX4_size_42 : decode cX4_size 42 = .ok (.iload_n 1, 1) := by decide +kernel
theorem dX4_size_43 : decode cX4_size 43 = .ok (.bipush 109, 2) := by decide +kernel
theorem dX4_size_45 : decode cX4_size 45 = .ok (.if_icmp .ne 7, 3) := by decide +kernel
theorem dX4_size_48 : decode cX4_size 48 = .ok (.iconst 1, 1) := by decide +kernel
theorem dX4_size_49 : decode cX4_size 49 = .ok (.goto 4, 3) := by decide +kernel
theorem dX4_size_52 : decode cX4_size 52 = .ok (.iconst 2, 1) := by decide +kernel
theorem dX4_size_53 : decode cX4_size 53 = .ok (.ireturn, 1) := by decide +kernel
set_option maxRecDepth 20000 in
theorem ggX4_readCommand_X4_letter : GoodIn wsX4_readCommand wsX4_letter := goodIn_r _ [7, 8, 9, 10, 31, 32, 33, 34, 35, 36, 37, 38, 39, 40, 41, 42, 43, 44] (by decide +kernel) (by decide +kernel)
set_option maxRecDepth 20000 in
theorem gX4_readCommand_X4_letter : GoodIn wsX4_readCommand (wsV RX4 186 RX4 yX4_letter wsX4_letter) := goodIn_app (goodIn_of _ (by decide +kernel)) ggX4_readCommand_X4_letter
set_option maxRecDepth 20000 in
theorem ggX4_readCommand_X4_wants : GoodIn wsX4_readCommand wsX4_wants := goodIn_r _ [14, 15, 8, 31, 32, 33, 34, 35, 36, 37, 38, 39, 40, 41, 42, 43, 44] (by decide +kernel) (by decide +kernel)
set_option maxRecDepth 20000 in
theorem gX4_readCommand_X4_wants : GoodIn wsX4_readCommand (wsV RX4 189 RX4 yX4_wants wsX4_wants) := goodIn_app (goodIn_of _ (by decide +kernel)) ggX4_readCommand_X4_wants
set_option maxRecDepth 20000 in
theorem ggX4_readCommand_X4_figure : GoodIn wsX4_readCommand wsX4_figure := goodIn_r _ [19, 3, 4, 5, 6, 7, 8, 9, 10, 20, 21, 22, 11, 12, 13, 14, 15, 31, 32, 33, 34, 35, 36, 37, 38, 39, 40, 41, 42, 43, 44] (by decide +kernel) (by decide +kernel)
set_option maxRecDepth 20000 in
theorem gX4_readCommand_X4_figure : GoodIn wsX4_readCommand (wsV RX4 193 RX4 yX4_figure wsX4_figure) := goodIn_app (goodIn_of _ (by decide +kernel)) ggX4_readCommand_X4_figure
set_option maxRecDepth 20000 in
theorem ggX4_readCommand_X4_size : GoodIn wsX4_readCommand wsX4_size := goodIn_r _ [26, 3, 4, 5, 6, 7, 8, 9, 10, 11, 12, 13, 14, 15, 31, 32, 33, 34, 35, 36, 37, 38, 39, 40, 41, 42, 43, 44] (by decide +kernel) (by decide +kernel)
set_option maxRecDepth 20000 in
theorem gX4_readCommand_X4_size : GoodIn wsX4_readCommand (wsV RX4 196 RX4 yX4_size wsX4_size) := goodIn_app (goodIn_of _ (by decide +kernel)) ggX4_readCommand_X4_size
set_option maxRecDepth 20000 in
theorem ggX4_readCommand_X4_days : GoodIn wsX4_readCommand wsX4_days := goodIn_r _ [30, 15, 8, 16, 17, 18, 6, 19, 3, 4, 5, 7, 9, 10, 20, 21, 22, 11, 12, 13, 14, 31, 32, 33, 34, 35, 36, 37, 38, 39, 40, 41, 42, 43, 44] (by decide +kernel) (by decide +kernel)
set_option maxRecDepth 20000 in
theorem gX4_readCommand_X4_days : GoodIn wsX4_readCommand (wsV RX4 199 RX4 yX4_days wsX4_days) := goodIn_app (goodIn_of _ (by decide +kernel)) ggX4_readCommand_X4_days
theorem dX4_readCommand_0 : decode cX4_readCommand 0 = .ok (.aload_n 0, 1) := by decide +kernel
theorem dX4_readCommand_1 : decode cX4_readCommand 1 = .ok (.invokevirtual 186, 3) := by decide +kernel
theorem dX4_readCommand_4 : decode cX4_readCommand 4 = .ok (.istore_n 1, 1) := by decide +kernel
theorem dX4_readCommand_5 : decode cX4_readCommand 5 = .ok (.aload_n 0, 1) := by decide +kernel
theorem dX4_readCommand_6 : decode cX4_readCommand 6 = .ok (.iload_n 1, 1) := by decide +kernel
theorem dX4_readCommand_7 : decode cX4_readCommand 7 = .ok (.bipush 97, 2) := by decide +kernel
theorem dX4_readCommand_9 : decode cX4_readCommand 9 = .ok (.if_icmp .eq 27, 3) := by decide +kernel
theorem dX4_readCommand_12 : decode cX4_readCommand 12 = .ok (.iload_n 1, 1) := by decide +kernel
theorem dX4_readCommand_13 : decode cX4_readCommand 13 = .ok (.bipush 112, 2) := by decide +kernel
theorem dX4_readCommand_15 : decode cX4_readCommand 15 = .ok (.if_icmp .eq 21, 3) := by decide +kernel
theorem dX4_readCommand_18 : decode cX4_readCommand 18 = .ok (.iload_n 1, 1) := by decide +kernel
theorem dX4_readCommand_19 : decode cX4_readCommand 19 = .ok (.bipush 120, 2) := by decide +kernel
theorem dX4_readCommand_21 : decode cX4_readCommand 21 = .ok (.if_icmp .eq 15, 3) := by decide +kernel
theorem dX4_readCommand_24 : decode cX4_readCommand 24 = .ok (.iload_n 1, 1) := by decide +kernel
theorem dX4_readCommand_25 : decode cX4_readCommand 25 = .ok (.bipush 109, 2) := by decide +kernel
theorem dX4_readCommand_27 : decode cX4_readCommand 27 = .ok (.if_icmp .eq 9, 3) := by decide +kernel
theorem dX4_readCommand_30 : decode cX4_readCommand 30 = .ok (.iload_n 1, 1) := by decide +kernel
theorem dX4_readCommand_31 : decode cX4_readCommand 31 = .ok (.bipush 100, 2) := by decide +kernel
theorem dX4_readCommand_33 : decode cX4_readCommand 33 = .ok (.if_icmp .ne 7, 3) := by decide +kernel
theorem dX4_readCommand_36 : decode cX4_readCommand 36 = .ok (.iconst 1, 1) := by decide +kernel
theorem dX4_readCommand_37 : decode cX4_readCommand 37 = .ok (.goto 4, 3) := by decide +kernel
theorem dX4_readCommand_40 : decode cX4_readCommand 40 = .ok (.iconst 0, 1) := by decide +kernel
theorem dX4_readCommand_41 : decode cX4_readCommand 41 = .ok (.invokevirtual 189, 3) := by decide +kernel
theorem dX4_readCommand_44 : decode cX4_readCommand 44 = .ok (.iconst 0, 1) := by decide +kernel
theorem dX4_readCommand_45 : decode cX4_readCommand 45 = .ok (.istore_n 2, 1) := by decide +kernel
theorem dX4_readCommand_46 : decode cX4_readCommand 46 = .ok (.iconst 0, 1) := by decide +kernel
theorem dX4_readCommand_47 : decode cX4_readCommand 47 = .ok (.istore_n 3, 1) := by decide +kernel
theorem dX4_readCommand_48 : decode cX4_readCommand 48 = .ok (.iload_n 1, 1) := by decide +kernel
theorem dX4_readCommand_49 : decode cX4_readCommand 49 = .ok (.bipush 97, 2) := by decide +kernel
theorem dX4_readCommand_51 : decode cX4_readCommand 51 = .ok (.if_icmp .ne 19, 3) := by decide +kernel
theorem dX4_readCommand_54 : decode cX4_readCommand 54 = .ok (.aload_n 0, 1) := by decide +kernel
theorem dX4_readCommand_55 : decode cX4_readCommand 55 = .ok (.iconst 0, 1) := by decide +kernel
theorem dX4_readCommand_56 : decode cX4_readCommand 56 = .ok (.bipush 9, 2) := by decide +kernel
theorem dX4_readCommand_58 : decode cX4_readCommand 58 = .ok (.invokevirtual 193, 3) := by decide +kernel
theorem dX4_readCommand_61 : decode cX4_readCommand 61 = .ok (.istore_n 2, 1) := by decide +kernel
theorem dX4_readCommand_62 : decode cX4_readCommand 62 = .ok (.aload_n 0, 1) := by decide +kernel
theorem dX4_readCommand_63 : decode cX4_readCommand 63 = .ok (.invokevirtual 196, 3) := by decide +kernel
theorem dX4_readCommand_66 : decode cX4_readCommand 66 = .ok (.istore_n 3, 1) := by decide +kernel
theorem dX4_readCommand_67 : decode cX4_readCommand 67 = .ok (.goto 76, 3) := by decide +kernel
theorem dX4_readCommand_70 : decode cX4_readCommand 70 = .ok (.iload_n 1, 1) := by decide +kernel
theorem dX4_readCommand_71 : decode cX4_readCommand 71 = .ok (.bipush 100, 2) := by decide +kernel
theorem dX4_readCommand_73 : decode cX4_readCommand 73 = .ok (.if_icmp .ne 11, 3) := by decide +kernel
theorem dX4_readCommand_76 : decode cX4_readCommand 76 = .ok (.aload_n 0, 1) := by decide +kernel
theorem dX4_readCommand_77 : decode cX4_readCommand 77 = .ok (.invokevirtual 199, 3) := by decide +kernel
theorem dX4_readCommand_80 : decode cX4_readCommand 80 = .ok (.istore_n 2, 1) := by decide +kernel
theorem dX4_readCommand_81 : decode cX4_readCommand 81 = .ok (.goto 62, 3) := by decide +kernel
theorem dX4_readCommand_84 : decode cX4_readCommand 84 = .ok (.iconst 0, 1) := by decide +kernel
theorem dX4_readCommand_85 : decode cX4_readCommand 85 = .ok (.istore 4, 2) := by decide +kernel
theorem dX4_readCommand_87 : decode cX4_readCommand 87 = .ok (.iload 4, 2) := by decide +kernel
theorem dX4_readCommand_89 : decode cX4_readCommand 89 = .ok (.iconst 4, 1) := by decide +kernel
theorem dX4_readCommand_90 : decode cX4_readCommand 90 = .ok (.if_icmp .ge 22, 3) := by decide +kernel
theorem dX4_readCommand_93 : decode cX4_readCommand 93 = .ok (.bipush 10, 2) := by decide +kernel
theorem dX4_readCommand_95 : decode cX4_readCommand 95 = .ok (.iload_n 2, 1) := by decide +kernel
theorem dX4_readCommand_96 : decode cX4_readCommand 96 = .ok (.imul, 1) := by decide +kernel
theorem dX4_readCommand_97 : decode cX4_readCommand 97 = .ok (.aload_n 0, 1) := by decide +kernel
theorem dX4_readCommand_98 : decode cX4_readCommand 98 = .ok (.iconst 0, 1) := by decide +kernel
theorem dX4_readCommand_99 : decode cX4_readCommand 99 = .ok (.bipush 9, 2) := by decide +kernel
theorem dX4_readCommand_101 : decode cX4_readCommand 101 = .ok (.invokevirtual 193, 3) := by decide +kernel
theorem dX4_readCommand_104 : decode cX4_readCommand 104 = .ok (.iadd, 1) := by decide +kernel
theorem dX4_readCommand_105 : decode cX4_readCommand 105 = .ok (.istore_n 2, 1) := by decide +kernel
theorem dX4_readCommand_106 : decode cX4_readCommand 106 = .ok (.iinc 4 1, 3) := by decide +kernel
theorem dX4_readCommand_109 : decode cX4_readCommand 109 = .ok (.goto (-22), 3) := by decide +kernel
theorem dX4_readCommand_112 : decode cX4_readCommand 112 = .ok (.iload_n 1, 1) := by decide +kernel
theorem dX4_readCommand_113 : decode cX4_readCommand 113 = .ok (.bipush 109, 2) := by decide +kernel
theorem dX4_readCommand_115 : decode cX4_readCommand 115 = .ok (.if_icmp .ne 28, 3) := by decide +kernel
theorem dX4_readCommand_118 : decode cX4_readCommand 118 = .ok (.aload_n 0, 1) := by decide +kernel
theorem dX4_readCommand_119 : decode cX4_readCommand 119 = .ok (.aload_n 0, 1) := by decide +kernel
theorem dX4_readCommand_120 : decode cX4_readCommand 120 = .ok (.invokevirtual 186, 3) := by decide +kernel
theorem dX4_readCommand_123 : decode cX4_readCommand 123 = .ok (.bipush 62, 2) := by decide +kernel
theorem dX4_readCommand_125 : decode cX4_readCommand 125 = .ok (.if_icmp .ne 7, 3) := by decide +kernel
theorem dX4_readCommand_128 : decode cX4_readCommand 128 = .ok (.iconst 1, 1) := by decide +kernel
theorem dX4_readCommand_129 : decode cX4_readCommand 129 = .ok (.goto 4, 3) := by decide +kernel
theorem dX4_readCommand_132 : decode cX4_readCommand 132 = .ok (.iconst 0, 1) := by decide +kernel
theorem dX4_readCommand_133 : decode cX4_readCommand 133 = .ok (.invokevirtual 189, 3) := by decide +kernel
theorem dX4_readCommand_136 : decode cX4_readCommand 136 = .ok (.aload_n 0, 1) := by decide +kernel
theorem dX4_readCommand_137 : decode cX4_readCommand 137 = .ok (.iconst 0, 1) := by decide +kernel
theorem dX4_readCommand_138 : decode cX4_readCommand 138 = .ok (.iconst 5, 1) := by decide +kernel
theorem dX4_readCommand_139 : decode cX4_readCommand 139 = .ok (.invokevirtual 193, 3) := by decide +kernel
theorem dX4_readCommand_142 : decode cX4_readCommand 142 = .ok (.istore_n 3, 1) := by decide +kernel
theorem dX4_readCommand_143 : decode cX4_readCommand 143 = .ok (.aload_n 0, 1) := by decide +kernel
theorem dX4_readCommand_144 : decode cX4_readCommand 144 = .ok (.getfield 33, 3) := by decide +kernel
theorem dX4_readCommand_147 : decode cX4_readCommand 147 = .ok (.iconst 3, 1) := by decide +kernel
theorem dX4_readCommand_148 : decode cX4_readCommand 148 = .ok (.aload_n 0, 1) := by decide +kernel
theorem dX4_readCommand_149 : decode cX4_readCommand 149 = .ok (.getfield 202, 3) := by decide +kernel
theorem dX4_readCommand_152 : decode cX4_readCommand 152 = .ok (.imul, 1) := by decide +kernel
theorem dX4_readCommand_153 : decode cX4_readCommand 153 = .ok (.iload_n 1, 1) := by decide +kernel
theorem dX4_readCommand_154 : decode cX4_readCommand 154 = .ok (.iastore, 1) := by decide +kernel
theorem dX4_readCommand_155 : decode cX4_readCommand 155 = .ok (.aload_n 0, 1) := by decide +kernel
theorem dX4_readCommand_156 : decode cX4_readCommand 156 = .ok (.getfield 33, 3) := by decide +kernel
theorem dX4_readCommand_159 : decode cX4_readCommand 159 = .ok (.iconst 3, 1) := by decide +kernel
theorem dX4_readCommand_160 : decode cX4_readCommand 160 = .ok (.aload_n 0, 1) := by decide +kernel
theorem dX4_readCommand_161 : decode cX4_readCommand 161 = .ok (.getfield 202, 3) := by decide +kernel
theorem dX4_readCommand_164 : decode cX4_readCommand 164 = .ok (.imul, 1) := by decide +kernel
theorem dX4_readCommand_165 : decode cX4_readCommand 165 = .ok (.iconst 1, 1) := by decide +kernel
theorem dX4_readCommand_166 : decode cX4_readCommand 166 = .ok (.iadd, 1) := by decide +kernel
theorem dX4_readCommand_167 : decode cX4_readCommand 167 = .ok (.iload_n 2, 1) := by decide +kernel
theorem dX4_readCommand_168 : decode cX4_readCommand 168 = .ok (.iastore, 1) := by decide +kernel
theorem dX4_readCommand_169 : decode cX4_readCommand 169 = .ok (.aload_n 0, 1) := by decide +kernel
theorem dX4_readCommand_170 : decode cX4_readCommand 170 = .ok (.getfield 33, 3) := by decide +kernel
theorem dX4_readCommand_173 : decode cX4_readCommand 173 = .ok (.iconst 3, 1) := by decide +kernel
theorem dX4_readCommand_174 : decode cX4_readCommand 174 = .ok (.aload_n 0, 1) := by decide +kernel
theorem dX4_readCommand_175 : decode cX4_readCommand 175 = .ok (.getfield 202, 3) := by decide +kernel
theorem dX4_readCommand_178 : decode cX4_readCommand 178 = .ok (.imul, 1) := by decide +kernel
theorem dX4_readCommand_179 : decode cX4_readCommand 179 = .ok (.iconst 2, 1) := by decide +kernel
theorem dX4_readCommand_180 : decode cX4_readCommand 180 = .ok (.iadd, 1) := by decide +kernel
theorem dX4_readCommand_181 : decode cX4_readCommand 181 = .ok (.iload_n 3, 1) := by decide +kernel
theorem dX4_readCommand_182 : decode cX4_readCommand 182 = .ok (.iastore, 1) := by decide +kernel
theorem dX4_readCommand_183 : decode cX4_readCommand 183 = .ok (.aload_n 0, 1) := by decide +kernel
theorem dX4_readCommand_184 : decode cX4_readCommand 184 = .ok (.dup, 1) := by decide +kernel
theorem dX4_readCommand_185 : decode cX4_readCommand 185 = .ok (.getfield 202, 3) := by decide +kernel
theorem dX4_readCommand_188 : decode cX4_readCommand 188 = .ok (.iconst 1, 1) := by decide +kernel
theorem dX4_readCommand_189 : decode cX4_readCommand 189 = .ok (.iadd, 1) := by decide +kernel
theorem dX4_readCommand_190 : decode cX4_readCommand 190 = .ok (.putfield 202, 3) := by decide +kernel
theorem dX4_readCommand_193 : decode cX4_readCommand 193 = .ok (.return_, 1) := by decide +kernel
set_option maxRecDepth 20000 in
theorem ggX4_errorPosition_X4_readCommand : GoodIn wsX4_errorPosition wsX4_readCommand := goodIn_r _ [9, 10, 1, 11, 12, 13, 8, 14, 2, 4, 15, 16, 17, 18, 19, 3, 20, 21, 22, 23, 24, 25, 26, 27, 28, 29, 30, 31, 32, 33, 34, 35, 36, 37, 38, 39, 40, 41, 42, 43, 44, 45, 46, 47, 48] (by decide +kernel) (by decide +kernel)
set_option maxRecDepth 20000 in
theorem gX4_errorPosition_X4_readCommand : GoodIn wsX4_errorPosition (wsV RX4 205 RX4 yX4_readCommand wsX4_readCommand) := goodIn_app (goodIn_of _ (by decide +kernel)) ggX4_errorPosition_X4_readCommand
set_option maxRecDepth 20000 in
theorem ggX4_errorPosition_X4_letter : GoodIn wsX4_errorPosition wsX4_letter := goodIn_r _ [14, 2, 4, 15, 35, 36, 37, 38, 39, 40, 41, 42, 43, 44, 45, 46, 47, 48] (by decide +kernel) (by decide +kernel)
set_option maxRecDepth 20000 in
theorem gX4_errorPosition_X4_letter : GoodIn wsX4_errorPosition (wsV RX4 186 RX4 yX4_letter wsX4_letter) := goodIn_app (goodIn_of _ (by decide +kernel)) ggX4_errorPosition_X4_letter
set_option maxRecDepth 20000 in
theorem ggX4_errorPosition_X4_wants : GoodIn wsX4_errorPosition wsX4_wants := goodIn_r _ [19, 3, 2, 35, 36, 37, 38, 39, 40, 41, 42, 43, 44, 45, 46, 47, 48] (by decide +kernel) (by decide +kernel)
set_option maxRecDepth 20000 in
theorem gX4_errorPosition_X4_wants : GoodIn wsX4_errorPosition (wsV RX4 189 RX4 yX4_wants wsX4_wants) := goodIn_app (goodIn_of _ (by decide +kernel)) ggX4_errorPosition_X4_wants
theorem dX4_errorPosition_0 : decode cX4_errorPosition 0 = .ok (.aload_n 0, 1) := by decide +kernel
theorem dX4_errorPosition_1 : decode cX4_errorPosition 1 = .ok (.iconst 0, 1) := by decide +kernel
theorem dX4_errorPosition_2 : decode cX4_errorPosition 2 = .ok (.putfield 202, 3) := by decide +kernel
theorem dX4_errorPosition_5 : decode cX4_errorPosition 5 = .ok (.aload_n 0, 1) := by decide +kernel
theorem dX4_errorPosition_6 : decode cX4_errorPosition 6 = .ok (.iconst 0, 1) := by decide +kernel
theorem dX4_errorPosition_7 : decode cX4_errorPosition 7 = .ok (.putfield 180, 3) := by decide +kernel
theorem dX4_errorPosition_10 : decode cX4_errorPosition 10 = .ok (.aload_n 0, 1) := by decide +kernel
theorem dX4_errorPosition_11 : decode cX4_errorPosition 11 = .ok (.bipush (-6), 2) := by decide +kernel
theorem dX4_errorPosition_13 : decode cX4_errorPosition 13 = .ok (.putfield 183, 3) := by decide +kernel
theorem dX4_errorPosition_16 : decode cX4_errorPosition 16 = .ok (.iconst 1, 1) := by decide +kernel
theorem dX4_errorPosition_17 : decode cX4_errorPosition 17 = .ok (.istore_n 1, 1) := by decide +kernel
theorem dX4_errorPosition_18 : decode cX4_errorPosition 18 = .ok (.iload_n 1, 1) := by decide +kernel
theorem dX4_errorPosition_19 : decode cX4_errorPosition 19 = .ok (.ifCond .eq 73, 3) := by decide +kernel
theorem dX4_errorPosition_22 : decode cX4_errorPosition 22 = .ok (.aload_n 0, 1) := by decide +kernel
theorem dX4_errorPosition_23 : decode cX4_errorPosition 23 = .ok (.invokevirtual 205, 3) := by decide +kernel
theorem dX4_errorPosition_26 : decode cX4_errorPosition 26 = .ok (.aload_n 0, 1) := by decide +kernel
theorem dX4_errorPosition_27 : decode cX4_errorPosition 27 = .ok (.getfield 183, 3) := by decide +kernel
theorem dX4_errorPosition_30 : decode cX4_errorPosition 30 = .ok (.bipush (-6), 2) := by decide +kernel
theorem dX4_errorPosition_32 : decode cX4_errorPosition 32 = .ok (.if_icmp .ne 18, 3) := by decide +kernel
theorem dX4_errorPosition_35 : decode cX4_errorPosition 35 = .ok (.aload_n 0, 1) := by decide +kernel
theorem dX4_errorPosition_36 : decode cX4_errorPosition 36 = .ok (.getfield 180, 3) := by decide +kernel
theorem dX4_errorPosition_39 : decode cX4_errorPosition 39 = .ok (.aload_n 0, 1) := by decide +kernel
theorem dX4_errorPosition_40 : decode cX4_errorPosition 40 = .ok (.getfield 177, 3) := by decide +kernel
theorem dX4_errorPosition_43 : decode cX4_errorPosition 43 = .ok (.if_icmp .ge 7, 3) := by decide +kernel
theorem dX4_errorPosition_46 : decode cX4_errorPosition 46 = .ok (.iconst 1, 1) := by decide +kernel
theorem dX4_errorPosition_47 : decode cX4_errorPosition 47 = .ok (.goto 4, 3) := by decide +kernel
theorem dX4_errorPosition_50 : decode cX4_errorPosition 50 = .ok (.iconst 0, 1) := by decide +kernel
theorem dX4_errorPosition_51 : decode cX4_errorPosition 51 = .ok (.istore_n 1, 1) := by decide +kernel
theorem dX4_errorPosition_52 : decode cX4_errorPosition 52 = .ok (.iload_n 1, 1) := by decide +kernel
theorem dX4_errorPosition_53 : decode cX4_errorPosition 53 = .ok (.ifCond .eq (-35), 3) := by decide +kernel
theorem dX4_errorPosition_56 : decode cX4_errorPosition 56 = .ok (.aload_n 0, 1) := by decide +kernel
theorem dX4_errorPosition_57 : decode cX4_errorPosition 57 = .ok (.aload_n 0, 1) := by decide +kernel
theorem dX4_errorPosition_58 : decode cX4_errorPosition 58 = .ok (.invokevirtual 186, 3) := by decide +kernel
theorem dX4_errorPosition_61 : decode cX4_errorPosition 61 = .ok (.bipush 59, 2) := by decide +kernel
theorem dX4_errorPosition_63 : decode cX4_errorPosition 63 = .ok (.if_icmp .ne 7, 3) := by decide +kernel
theorem dX4_errorPosition_66 : decode cX4_errorPosition 66 = .ok (.iconst 1, 1) := by decide +kernel
theorem dX4_errorPosition_67 : decode cX4_errorPosition 67 = .ok (.goto 4, 3) := by decide +kernel
theorem dX4_errorPosition_70 : decode cX4_errorPosition 70 = .ok (.iconst 0, 1) := by decide +kernel
theorem dX4_errorPosition_71 : decode cX4_errorPosition 71 = .ok (.invokevirtual 189, 3) := by decide +kernel
theorem dX4_errorPosition_74 : decode cX4_errorPosition 74 = .ok (.aload_n 0, 1) := by decide +kernel
theorem dX4_errorPosition_75 : decode cX4_errorPosition 75 = .ok (.getfield 183, 3) := by decide +kernel
theorem dX4_errorPosition_78 : decode cX4_errorPosition 78 = .ok (.bipush (-6), 2) := by decide +kernel
theorem dX4_errorPosition_80 : decode cX4_errorPosition 80 = .ok (.if_icmp .ne 7, 3) := by decide +kernel
theorem dX4_errorPosition_83 : decode cX4_errorPosition 83 = .ok (.iconst 1, 1) := by decide +kernel
theorem dX4_errorPosition_84 : decode cX4_errorPosition 84 = .ok (.goto 4, 3) := by decide +kernel
theorem dX4_errorPosition_87 : decode cX4_errorPosition 87 = .ok (.iconst 0, 1) := by decide +kernel
theorem dX4_errorPosition_88 : decode cX4_errorPosition 88 = .ok (.istore_n 1, 1) := by decide +kernel
theorem dX4_errorPosition_89 : decode cX4_errorPosition 89 = .ok (.goto (-71), 3) := by decide +kernel
theorem dX4_errorPosition_92 : decode cX4_errorPosition 92 = .ok (.aload_n 0, 1) := by decide +kernel
theorem dX4_errorPosition_93 : decode cX4_errorPosition 93 = .ok (.getfield 183, 3) := by decide +kernel
theorem dX4_errorPosition_96 : decode cX4_errorPosition 96 = .ok (.ireturn, 1) := by decide +kernel
set_option maxRecDepth 20000 in
theorem ggX4_executeOne_X4_whyNotCome : GoodIn wsX4_executeOne wsX4_whyNotCome := goodIn_r _ [6, 7, 8, 5, 9, 10, 11, 12, 13, 14, 15, 16, 17, 18, 19, 20, 21, 22, 23, 24, 25, 26, 27, 28, 29, 30, 31, 32, 33, 34, 35, 36, 37, 38, 39, 40, 41, 42, 43, 44, 45, 46, 133, 134, 135, 136, 137, 138, 139, 140, 141, 142, 143, 144, 145, 146] (by decide +kernel) (by decide +kernel)
set_option maxRecDepth 20000 in
theorem gX4_executeOne_X4_whyNotCome : GoodIn wsX4_executeOne (wsV RX4 102 RX4 yX4_whyNotCome wsX4_whyNotCome) := goodIn_app (goodIn_of _ (by decide +kernel)) ggX4_executeOne_X4_whyNotCome
set_option maxRecDepth 20000 in
theorem ggX4_executeOne_X4_comes : GoodIn wsX4_executeOne wsX4_comes := goodIn_r _ [50, 25, 13, 14, 15, 5, 16, 17, 18, 19, 20, 21, 22, 23, 24, 26, 27, 28, 29, 30, 31, 32, 33, 34, 35, 36, 51, 52, 53, 54, 55, 56, 57, 58, 59, 60, 61, 133, 134, 135, 136, 137, 138, 139, 140, 141, 142, 143, 144, 145, 146] (by decide +kernel) (by decide +kernel)
set_option maxRecDepth 20000 in
theorem gX4_executeOne_X4_comes : GoodIn wsX4_executeOne (wsV RX4 105 RX4 yX4_comes wsX4_comes) := goodIn_app (goodIn_of _ (by decide +kernel)) ggX4_executeOne_X4_comes
set_option maxRecDepth 20000 in
theorem ggX4_executeOne_X4_whyNotFetch : GoodIn wsX4_executeOne wsX4_whyNotFetch := goodIn_r _ [65, 10, 11, 5, 12, 66, 67, 68, 69, 25, 41, 42, 43, 44, 45, 46, 133, 134, 135, 136, 137, 138, 139, 140, 141, 142, 143, 144, 145, 146] (by decide +kernel) (by decide +kernel)
set_option maxRecDepth 20000 in
theorem gX4_executeOne_X4_whyNotFetch : GoodIn wsX4_executeOne (wsV RX4 126 RX4 yX4_whyNotFetch wsX4_whyNotFetch) := goodIn_app (goodIn_of _ (by decide +kernel)) ggX4_executeOne_X4_whyNotFetch
set_option maxRecDepth 20000 in
theorem ggX4_executeOne_X4_fetches : GoodIn wsX4_executeOne wsX4_fetches := goodIn_r _ [73, 25, 74, 75, 76, 5, 77, 78, 79, 80, 10, 11, 12, 59, 60, 61, 17, 18, 19, 20, 21, 22, 23, 24, 81, 82, 83, 84, 85, 86, 87, 88, 89, 90, 91, 92, 133, 134, 135, 136, 137, 138, 139, 140, 141, 142, 143, 144, 145, 146] (by decide +kernel) (by decide +kernel)
set_option maxRecDepth 20000 in
theorem gX4_executeOne_X4_fetches : GoodIn wsX4_executeOne (wsV RX4 129 RX4 yX4_fetches wsX4_fetches) := goodIn_app (goodIn_of _ (by decide +kernel)) ggX4_executeOne_X4_fetches
set_option maxRecDepth 20000 in
theorem ggX4_executeOne_X4_whyNotRefuse : GoodIn wsX4_executeOne wsX4_whyNotRefuse := goodIn_r _ [96, 74, 75, 76, 5, 77, 78, 79, 80, 10, 11, 12, 59, 60, 61, 17, 18, 19, 20, 21, 22, 23, 24, 25, 97, 98, 99, 100, 33, 34, 35, 36, 41, 42, 43, 44, 45, 46, 101, 102, 103, 104, 133, 134, 135, 136, 137, 138, 139, 140, 141, 142, 143, 144, 145, 146] (by decide +kernel) (by decide +kernel)
set_option maxRecDepth 20000 in
theorem gX4_executeOne_X4_whyNotRefuse : GoodIn wsX4_executeOne (wsV RX4 138 RX4 yX4_whyNotRefuse wsX4_whyNotRefuse) := goodIn_app (goodIn_of _ (by decide +kernel)) ggX4_executeOne_X4_whyNotRefuse
set_option maxRecDepth 20000 in
theorem ggX4_executeOne_X4_placeBy : GoodIn wsX4_executeOne wsX4_placeBy := goodIn_r _ [77, 78, 79, 5, 80, 10, 11, 12, 59, 60, 61, 17, 18, 19, 20, 21, 22, 23, 24, 25, 133, 134, 135, 136, 137, 138, 139, 140, 141, 142, 143, 144, 145, 146] (by decide +kernel) (by decide +kernel)
set_option maxRecDepth 20000 in
theorem gX4_executeOne_X4_placeBy : GoodIn wsX4_executeOne (wsV RX4 112 RX4 yX4_placeBy wsX4_placeBy) := goodIn_app (goodIn_of _ (by decide +kernel)) ggX4_executeOne_X4_placeBy
set_option maxRecDepth 20000 in
theorem ggX4_executeOne_X4_goesBack : GoodIn wsX4_executeOne wsX4_goesBack := goodIn_r _ [108, 21, 22, 23, 5, 24, 25, 85, 86, 87, 88, 89, 90, 91, 92, 101, 102, 103, 104, 133, 134, 135, 136, 137, 138, 139, 140, 141, 142, 143, 144, 145, 146] (by decide +kernel) (by decide +kernel)
set_option maxRecDepth 20000 in
theorem gX4_executeOne_X4_goesBack : GoodIn wsX4_executeOne (wsV RX4 141 RX4 yX4_goesBack wsX4_goesBack) := goodIn_app (goodIn_of _ (by decide +kernel)) ggX4_executeOne_X4_goesBack
set_option maxRecDepth 20000 in
theorem ggX4_executeOne_X4_whyNotMove : GoodIn wsX4_executeOne wsX4_whyNotMove := goodIn_r _ [112, 74, 75, 76, 5, 77, 78, 79, 80, 10, 11, 12, 59, 60, 61, 17, 18, 19, 20, 21, 22, 23, 24, 25, 97, 98, 99, 100, 33, 34, 35, 36, 41, 42, 43, 44, 45, 46, 13, 14, 15, 16, 26, 27, 28, 29, 30, 31, 32, 37, 38, 39, 40, 133, 134, 135, 136, 137, 138, 139, 140, 141, 142, 143, 144, 145, 146] (by decide +kernel) (by decide +kernel)
set_option maxRecDepth 20000 in
theorem gX4_executeOne_X4_whyNotMove : GoodIn wsX4_executeOne (wsV RX4 144 RX4 yX4_whyNotMove wsX4_whyNotMove) := goodIn_app (goodIn_of _ (by decide +kernel)) ggX4_executeOne_X4_whyNotMove
set_option maxRecDepth 20000 in
theorem ggX4_executeOne_X4_moves : GoodIn wsX4_executeOne wsX4_moves := goodIn_r _ [116, 74, 75, 76, 5, 77, 78, 79, 80, 10, 11, 12, 59, 60, 61, 17, 18, 19, 20, 21, 22, 23, 24, 25, 13, 14, 15, 16, 26, 27, 28, 29, 30, 31, 32, 33, 34, 35, 36, 51, 52, 53, 54, 89, 90, 91, 92, 55, 56, 57, 58, 133, 134, 135, 136, 137, 138, 139, 140, 141, 142, 143, 144, 145, 146] (by decide +kernel) (by decide +kernel)
set_option maxRecDepth 20000 in
theorem gX4_executeOne_X4_moves : GoodIn wsX4_executeOne (wsV RX4 147 RX4 yX4_moves wsX4_moves) := goodIn_app (goodIn_of _ (by decide +kernel)) ggX4_executeOne_X4_moves
set_option maxRecDepth 20000 in
theorem ggX4_executeOne_X4_whyNotPass : GoodIn wsX4_executeOne wsX4_whyNotPass := goodIn_r _ [120, 25, 10, 11, 5, 12, 133, 134, 135, 136, 137, 138, 139, 140, 141, 142, 143, 144, 145, 146] (by decide +kernel) (by decide +kernel)
set_option maxRecDepth 20000 in
theorem gX4_executeOne_X4_whyNotPass : GoodIn wsX4_executeOne (wsV RX4 156 RX4 yX4_whyNotPass wsX4_whyNotPass) := goodIn_app (goodIn_of _ (by decide +kernel)) ggX4_executeOne_X4_whyNotPass
set_option maxRecDepth 20000 in
theorem ggX4_executeOne_X4_passes : GoodIn wsX4_executeOne wsX4_passes := goodIn_r _ [124, 125, 126, 127, 5, 128, 25, 101, 102, 103, 104, 129, 130, 131, 132, 85, 86, 87, 88, 17, 18, 19, 20, 21, 22, 23, 24, 105, 106, 107, 108, 89, 90, 91, 92, 133, 134, 135, 136, 137, 138, 139, 140, 141, 142, 143, 144, 145, 146] (by decide +kernel) (by decide +kernel)
set_option maxRecDepth 20000 in
theorem gX4_executeOne_X4_passes : GoodIn wsX4_executeOne (wsV RX4 159 RX4 yX4_passes wsX4_passes) := goodIn_app (goodIn_of _ (by decide +kernel)) ggX4_executeOne_X4_passes
theorem dX4_executeOne_0 : decode cX4_executeOne 0 = .ok (.aload_n 0, 1) := by decide +kernel
theorem dX4_executeOne_1 : decode cX4_executeOne 1 = .ok (.getfield 33, 3) := by decide +kernel
theorem dX4_executeOne_4 : decode cX4_executeOne 4 = .ok (.iload_n 1, 1) := by decide +kernel
theorem dX4_executeOne_5 : decode cX4_executeOne 5 = .ok (.iconst 1, 1) := by decide +kernel
theorem dX4_executeOne_6 : decode cX4_executeOne 6 = .ok (.iadd, 1) := by decide +kernel
theorem dX4_executeOne_7 : decode cX4_executeOne 7 = .ok (.iaload, 1) := by decide +kernel
theorem dX4_executeOne_8 : decode cX4_executeOne 8 = .ok (.istore_n 2, 1) := by decide +kernel
theorem dX4_executeOne_9 : decode cX4_executeOne 9 = .ok (.aload_n 0, 1) := by decide +kernel
theorem dX4_executeOne_10 : decode cX4_executeOne 10 = .ok (.getfield 33, 3) := by decide +kernel
theorem dX4_executeOne_13 : decode cX4_executeOne 13 = .ok (.iload_n 1, 1) := by decide +kernel
theorem dX4_executeOne_14 : decode cX4_executeOne 14 = .ok (.iconst 2, 1) := by decide +kernel
theorem dX4_executeOne_15 : decode cX4_executeOne 15 = .ok (.iadd, 1) := by decide +kernel
theorem dX4_executeOne_16 : decode cX4_executeOne 16 = .ok (.iaload, 1) := by decide +kernel
theorem dX4_executeOne_17 : decode cX4_executeOne 17 = .ok (.istore_n 3, 1) := by decide +kernel
theorem dX4_executeOne_18 : decode cX4_executeOne 18 = .ok (.iconst 0, 1) := by decide +kernel
theorem dX4_executeOne_19 : decode cX4_executeOne 19 = .ok (.istore 4, 2) := by decide +kernel
theorem dX4_executeOne_21 : decode cX4_executeOne 21 = .ok (.aload_n 0, 1) := by decide +kernel
theorem dX4_executeOne_22 : decode cX4_executeOne 22 = .ok (.getfield 33, 3) := by decide +kernel
theorem dX4_executeOne_25 : decode cX4_executeOne 25 = .ok (.iload_n 1, 1) := by decide +kernel
theorem dX4_executeOne_26 : decode cX4_executeOne 26 = .ok (.iaload, 1) := by decide +kernel
theorem dX4_executeOne_27 : decode cX4_executeOne 27 = .ok (.lookupswitch 133 #[(97, 41), (109, 110), (112, 64), (120, 85)], 41) := by decide +kernel
theorem dX4_executeOne_68 : decode cX4_executeOne 68 = .ok (.aload_n 0, 1) := by decide +kernel
theorem dX4_executeOne_69 : decode cX4_executeOne 69 = .ok (.iload_n 2, 1) := by decide +kernel
theorem dX4_executeOne_70 : decode cX4_executeOne 70 = .ok (.iload_n 3, 1) := by decide +kernel
theorem dX4_executeOne_71 : decode cX4_executeOne 71 = .ok (.invokevirtual 102, 3) := by decide +kernel
theorem dX4_executeOne_74 : decode cX4_executeOne 74 = .ok (.istore 4, 2) := by decide +kernel
theorem dX4_executeOne_76 : decode cX4_executeOne 76 = .ok (.iload 4, 2) := by decide +kernel
theorem dX4_executeOne_78 : decode cX4_executeOne 78 = .ok (.ifCond .ne 100, 3) := by decide +kernel
theorem dX4_executeOne_81 : decode cX4_executeOne 81 = .ok (.aload_n 0, 1) := by decide +kernel
theorem dX4_executeOne_82 : decode cX4_executeOne 82 = .ok (.iload_n 2, 1) := by decide +kernel
theorem dX4_executeOne_83 : decode cX4_executeOne 83 = .ok (.iload_n 3, 1) := by decide +kernel
theorem dX4_executeOne_84 : decode cX4_executeOne 84 = .ok (.invokevirtual 105, 3) := by decide +kernel
theorem dX4_executeOne_87 : decode cX4_executeOne 87 = .ok (.pop, 1) := by decide +kernel
theorem dX4_executeOne_88 : decode cX4_executeOne 88 = .ok (.goto 90, 3) := by decide +kernel
theorem dX4_executeOne_91 : decode cX4_executeOne 91 = .ok (.aload_n 0, 1) := by decide +kernel
theorem dX4_executeOne_92 : decode cX4_executeOne 92 = .ok (.iload_n 2, 1) := by decide +kernel
theorem dX4_executeOne_93 : decode cX4_executeOne 93 = .ok (.invokevirtual 126, 3) := by decide +kernel
theorem dX4_executeOne_96 : decode cX4_executeOne 96 = .ok (.istore 4, 2) := by decide +kernel
theorem dX4_executeOne_98 : decode cX4_executeOne 98 = .ok (.iload 4, 2) := by decide +kernel
theorem dX4_executeOne_100 : decode cX4_executeOne 100 = .ok (.ifCond .ne 78, 3) := by decide +kernel
theorem dX4_executeOne_103 : decode cX4_executeOne 103 = .ok (.aload_n 0, 1) := by decide +kernel
theorem dX4_executeOne_104 : decode cX4_executeOne 104 = .ok (.iload_n 2, 1) := by decide +kernel
theorem dX4_executeOne_105 : decode cX4_executeOne 105 = .ok (.invokevirtual 129, 3) := by decide +kernel
theorem dX4_executeOne_108 : decode cX4_executeOne 108 = .ok (.pop, 1) := by decide +kernel
theorem dX4_executeOne_109 : decode cX4_executeOne 109 = .ok (.goto 69, 3) := by decide +kernel
theorem dX4_executeOne_112 : decode cX4_executeOne 112 = .ok (.aload_n 0, 1) := by decide +kernel
theorem dX4_executeOne_113 : decode cX4_executeOne 113 = .ok (.iload_n 2, 1) := by decide +kernel
theorem dX4_executeOne_114 : decode cX4_executeOne 114 = .ok (.invokevirtual 138, 3) := by decide +kernel
theorem dX4_executeOne_117 : decode cX4_executeOne 117 = .ok (.istore 4, 2) := by decide +kernel
theorem dX4_executeOne_119 : decode cX4_executeOne 119 = .ok (.iload 4, 2) := by decide +kernel
theorem dX4_executeOne_121 : decode cX4_executeOne 121 = .ok (.ifCond .ne 57, 3) := by decide +kernel
theorem dX4_executeOne_124 : decode cX4_executeOne 124 = .ok (.aload_n 0, 1) := by decide +kernel
theorem dX4_executeOne_125 : decode cX4_executeOne 125 = .ok (.aload_n 0, 1) := by decide +kernel
theorem dX4_executeOne_126 : decode cX4_executeOne 126 = .ok (.iload_n 2, 1) := by decide +kernel
theorem dX4_executeOne_127 : decode cX4_executeOne 127 = .ok (.invokevirtual 112, 3) := by decide +kernel
theorem dX4_executeOne_130 : decode cX4_executeOne 130 = .ok (.invokevirtual 141, 3) := by decide +kernel
theorem dX4_executeOne_133 : decode cX4_executeOne 133 = .ok (.pop, 1) := by decide +kernel
theorem dX4_executeOne_134 : decode cX4_executeOne 134 = .ok (.goto 44, 3) := by decide +kernel
theorem dX4_executeOne_137 : decode cX4_executeOne 137 = .ok (.aload_n 0, 1) := by decide +kernel
theorem dX4_executeOne_138 : decode cX4_executeOne 138 = .ok (.iload_n 2, 1) := by decide +kernel
theorem dX4_executeOne_139 : decode cX4_executeOne 139 = .ok (.iload_n 3, 1) := by decide +kernel
theorem dX4_executeOne_140 : decode cX4_executeOne 140 = .ok (.invokevirtual 144, 3) := by decide +kernel
theorem dX4_executeOne_143 : decode cX4_executeOne 143 = .ok (.istore 4, 2) := by decide +kernel
theorem dX4_executeOne_145 : decode cX4_executeOne 145 = .ok (.iload 4, 2) := by decide +kernel
theorem dX4_executeOne_147 : decode cX4_executeOne 147 = .ok (.ifCond .ne 31, 3) := by decide +kernel
theorem dX4_executeOne_150 : decode cX4_executeOne 150 = .ok (.aload_n 0, 1) := by decide +kernel
theorem dX4_executeOne_151 : decode cX4_executeOne 151 = .ok (.iload_n 2, 1) := by decide +kernel
theorem dX4_executeOne_152 : decode cX4_executeOne 152 = .ok (.iload_n 3, 1) := by decide +kernel
theorem dX4_executeOne_153 : decode cX4_executeOne 153 = .ok (.invokevirtual 147, 3) := by decide +kernel
theorem dX4_executeOne_156 : decode cX4_executeOne 156 = .ok (.pop, 1) := by decide +kernel
theorem dX4_executeOne_157 : decode cX4_executeOne 157 = .ok (.goto 21, 3) := by decide +kernel
theorem dX4_executeOne_160 : decode cX4_executeOne 160 = .ok (.aload_n 0, 1) := by decide +kernel
theorem dX4_executeOne_161 : decode cX4_executeOne 161 = .ok (.iload_n 2, 1) := by decide +kernel
theorem dX4_executeOne_162 : decode cX4_executeOne 162 = .ok (.invokevirtual 156, 3) := by decide +kernel
theorem dX4_executeOne_165 : decode cX4_executeOne 165 = .ok (.istore 4, 2) := by decide +kernel
theorem dX4_executeOne_167 : decode cX4_executeOne 167 = .ok (.iload 4, 2) := by decide +kernel
theorem dX4_executeOne_169 : decode cX4_executeOne 169 = .ok (.ifCond .ne 9, 3) := by decide +kernel
theorem dX4_executeOne_172 : decode cX4_executeOne 172 = .ok (.aload_n 0, 1) := by decide +kernel
theorem dX4_executeOne_173 : decode cX4_executeOne 173 = .ok (.iload_n 2, 1) := by decide +kernel
theorem dX4_executeOne_174 : decode cX4_executeOne 174 = .ok (.invokevirtual 159, 3) := by decide +kernel
theorem dX4_executeOne_177 : decode cX4_executeOne 177 = .ok (.pop, 1) := by decide +kernel
theorem dX4_executeOne_178 : decode cX4_executeOne 178 = .ok (.iload 4, 2) := by decide +kernel
theorem dX4_executeOne_180 : decode cX4_executeOne 180 = .ok (.ireturn, 1) := by decide +kernel
set_option maxRecDepth 20000 in
theorem ggX4_execute_X4_errorPosition : GoodIn wsX4_execute wsX4_errorPosition := goodIn_r _ [7, 1, 8, 9, 2, 10, 11, 12, 6, 13, 14, 15, 16, 17, 18, 19, 20, 21, 22, 23, 24, 25, 26, 27, 28, 29, 30, 31, 32, 33, 34, 35, 36, 37, 38, 176, 177, 178, 179, 180, 181, 182, 183, 184, 185, 186, 187, 188, 189] (by decide +kernel) (by decide +kernel)
set_option maxRecDepth 20000 in
theorem gX4_execute_X4_errorPosition : GoodIn wsX4_execute (wsV RX4 208 RX4 yX4_errorPosition wsX4_errorPosition) := goodIn_app (goodIn_of _ (by decide +kernel)) ggX4_execute_X4_errorPosition
set_option maxRecDepth 20000 in
theorem ggX4_execute_X4_record : GoodIn wsX4_execute wsX4_record := goodIn_r _ [42, 43, 44, 45, 176, 177, 178, 179, 180, 181, 182, 183, 184, 185, 186, 187, 188, 189] (by decide +kernel) (by decide +kernel)
set_option maxRecDepth 20000 in
theorem gX4_execute_X4_record : GoodIn wsX4_execute (wsV RX4 47 RX4 yX4_record wsX4_record) := goodIn_app (goodIn_of _ (by decide +kernel)) ggX4_execute_X4_record
set_option maxRecDepth 20000 in
theorem ggX4_execute_X4_executeOne : GoodIn wsX4_execute wsX4_executeOne := goodIn_r _ [49, 14, 50, 51, 52, 6, 53, 54, 55, 56, 28, 29, 30, 57, 58, 59, 60, 61, 62, 63, 64, 65, 66, 67, 68, 45, 69, 70, 71, 72, 73, 74, 75, 76, 77, 78, 79, 80, 81, 82, 83, 84, 85, 86, 87, 88, 89, 90, 91, 92, 93, 94, 95, 96, 97, 98, 99, 100, 101, 102, 103, 104, 105, 106, 107, 108, 109, 110, 111, 112, 113, 114, 115, 116, 117, 118, 119, 120, 121, 122, 123, 124, 125, 126, 127, 128, 129, 130, 131, 132, 133, 134, 135, 136, 137, 138, 139, 140, 141, 142, 143, 144, 145, 146, 147, 148, 149, 150, 151, 152, 153, 154, 155, 156, 157, 158, 159, 160, 161, 162, 163, 164, 165, 166, 167, 168, 169, 170, 171, 172, 173, 174, 175, 176, 177, 178, 179, 180, 181, 182, 183, 184, 185, 186, 187, 188, 189] (by decide +kernel) (by decide +kernel)
set_option maxRecDepth 20000 in
theorem gX4_execute_X4_executeOne : GoodIn wsX4_execute (wsV RX4 211 RX4 yX4_executeOne wsX4_executeOne) := goodIn_app (goodIn_of _ (by decide +kernel)) ggX4_execute_X4_executeOne
theorem dX4_execute_0 : decode cX4_execute 0 = .ok (.aload_n 0, 1) := by decide +kernel
theorem dX4_execute_1 : decode cX4_execute 1 = .ok (.invokevirtual 208, 3) := by decide +kernel
theorem dX4_execute_4 : decode cX4_execute 4 = .ok (.bipush (-6), 2) := by decide +kernel
theorem dX4_execute_6 : decode cX4_execute 6 = .ok (.if_icmp .eq 6, 3) := by decide +kernel
theorem dX4_execute_9 : decode cX4_execute 9 = .ok (.bipush (-5), 2) := by decide +kernel
theorem dX4_execute_11 : decode cX4_execute 11 = .ok (.ireturn, 1) := by decide +kernel
theorem dX4_execute_12 : decode cX4_execute 12 = .ok (.aload_n 0, 1) := by decide +kernel
theorem dX4_execute_13 : decode cX4_execute 13 = .ok (.invokevirtual 47, 3) := by decide +kernel
theorem dX4_execute_16 : decode cX4_execute 16 = .ok (.iconst 0, 1) := by decide +kernel
theorem dX4_execute_17 : decode cX4_execute 17 = .ok (.istore_n 1, 1) := by decide +kernel
theorem dX4_execute_18 : decode cX4_execute 18 = .ok (.iload_n 1, 1) := by decide +kernel
theorem dX4_execute_19 : decode cX4_execute 19 = .ok (.aload_n 0, 1) := by decide +kernel
theorem dX4_execute_20 : decode cX4_execute 20 = .ok (.getfield 202, 3) := by decide +kernel
theorem dX4_execute_23 : decode cX4_execute 23 = .ok (.if_icmp .ge 19, 3) := by decide +kernel
theorem dX4_execute_26 : decode cX4_execute 26 = .ok (.aload_n 0, 1) := by decide +kernel
theorem dX4_execute_27 : decode cX4_execute 27 = .ok (.iconst 3, 1) := by decide +kernel
theorem dX4_execute_28 : decode cX4_execute 28 = .ok (.iload_n 1, 1) := by decide +kernel
theorem dX4_execute_29 : decode cX4_execute 29 = .ok (.imul, 1) := by decide +kernel
theorem dX4_execute_30 : decode cX4_execute 30 = .ok (.invokevirtual 211, 3) := by decide +kernel
theorem dX4_execute_33 : decode cX4_execute 33 = .ok (.ifCond .ne 9, 3) := by decide +kernel
theorem dX4_execute_36 : decode cX4_execute 36 = .ok (.iinc 1 1, 3) := by decide +kernel
theorem dX4_execute_39 : decode cX4_execute 39 = .ok (.goto (-21), 3) := by decide +kernel
theorem dX4_execute_42 : decode cX4_execute 42 = .ok (.aload_n 0, 1) := by decide +kernel
theorem dX4_execute_43 : decode cX4_execute 43 = .ok (.iconst 0, 1) := by decide +kernel
theorem dX4_execute_44 : decode cX4_execute 44 = .ok (.putfield 177, 3) := by decide +kernel
theorem dX4_execute_47 : decode cX4_execute 47 = .ok (.iload_n 1, 1) := by decide +kernel
theorem dX4_execute_48 : decode cX4_execute 48 = .ok (.ireturn, 1) := by decide +kernel
theorem dJ9_max_7cf53_0 : decode cJ9_max_7cf53 0 = .ok (.iload_n 0, 1) := by decide +kernel
theorem dJ9_max_7cf53_1 : decode cJ9_max_7cf53 1 = .ok (.iload_n 1, 1) := by decide +kernel
theorem dJ9_max_7cf53_2 : decode cJ9_max_7cf53 2 = .ok (.if_icmp .lt 7, 3) := by decide +kernel
theorem dJ9_max_7cf53_5 : decode cJ9_max_7cf53 5 = .ok (.iload_n 0, 1) := by decide +kernel
theorem dJ9_max_7cf53_6 : decode cJ9_max_7cf53 6 = .ok (.goto 4, 3) := by decide +kernel
theorem dJ9_max_7cf53_9 : decode cJ9_max_7cf53 9 = .ok (.iload_n 1, 1) := by decide +kernel
theorem dJ9_max_7cf53_10 : decode cJ9_max_7cf53 10 = .ok (.ireturn, 1) := by decide +kernel
theorem dJ7_fill_53178_0 : decode cJ7_fill_53178 0 = .ok (.iconst 0, 1) := by decide +kernel
theorem dJ7_fill_53178_1 : decode cJ7_fill_53178 1 = .ok (.istore_n 2, 1) := by decide +kernel
theorem dJ7_fill_53178_2 : decode cJ7_fill_53178 2 = .ok (.aload_n 0, 1) := by decide +kernel
theorem dJ7_fill_53178_3 : decode cJ7_fill_53178 3 = .ok (.arraylength, 1) := by decide +kernel
theorem dJ7_fill_53178_4 : decode cJ7_fill_53178 4 = .ok (.istore_n 3, 1) := by decide +kernel
theorem dJ7_fill_53178_5 : decode cJ7_fill_53178 5 = .ok (.iload_n 2, 1) := by decide +kernel
theorem dJ7_fill_53178_6 : decode cJ7_fill_53178 6 = .ok (.iload_n 3, 1) := by decide +kernel
theorem dJ7_fill_53178_7 : decode cJ7_fill_53178 7 = .ok (.if_icmp .ge 13, 3) := by decide +kernel
theorem dJ7_fill_53178_10 : decode cJ7_fill_53178 10 = .ok (.aload_n 0, 1) := by decide +kernel
theorem dJ7_fill_53178_11 : decode cJ7_fill_53178 11 = .ok (.iload_n 2, 1) := by decide +kernel
theorem dJ7_fill_53178_12 : decode cJ7_fill_53178 12 = .ok (.iload_n 1, 1) := by decide +kernel
theorem dJ7_fill_53178_13 : decode cJ7_fill_53178 13 = .ok (.iastore, 1) := by decide +kernel
theorem dJ7_fill_53178_14 : decode cJ7_fill_53178 14 = .ok (.iinc 2 1, 3) := by decide +kernel
theorem dJ7_fill_53178_17 : decode cJ7_fill_53178 17 = .ok (.goto (-12), 3) := by decide +kernel
theorem dJ7_fill_53178_20 : decode cJ7_fill_53178 20 = .ok (.return_, 1) := by decide +kernel
set_option maxRecDepth 20000 in
theorem ggL_law_X3_init : GoodIn wsL_law wsX3_init := goodIn_r _ [8, 9, 10, 11, 12, 13, 14, 15, 16, 17, 18, 19, 20, 21, 22, 23, 24, 25, 26, 27, 28, 29, 30, 31, 32, 33, 34, 35, 36, 37, 38, 39, 40, 41, 42, 43, 44, 45, 46, 47, 48, 49, 50, 51, 52, 53, 54, 55, 56, 57, 58, 59, 60, 61, 62, 63, 796, 797, 798, 799, 800, 801, 802, 803, 804, 805, 806, 807, 808, 809, 774, 775, 776, 777, 778, 779, 780, 781, 810, 811, 812, 813, 814] (by decide +kernel) (by decide +kernel)
set_option maxRecDepth 20000 in
theorem gL_law_X3_init : GoodIn wsL_law (wsX3_init) := ggL_law_X3_init
set_option maxRecDepth 20000 in
theorem ggL_law_X4_init : GoodIn wsL_law wsX4_init := goodIn_r _ [66, 67, 10, 11, 33, 68, 69, 70, 71, 72, 73, 62, 74, 75, 782, 783, 784, 785, 786, 787, 788, 789, 790, 791, 792, 793, 794, 795] (by decide +kernel) (by decide +kernel)
set_option maxRecDepth 20000 in
theorem gL_law_X4_init : GoodIn wsL_law (wsX4_init) := ggL_law_X4_init
set_option maxRecDepth 20000 in
theorem ggL_law_X3_set : GoodIn wsL_law wsX3_set := goodIn_r _ [79, 21, 15, 80, 81, 82, 20, 83, 57, 84, 85, 86, 87, 88, 14, 89, 90, 91, 92, 93, 34, 44, 45, 46, 47, 35, 36, 37, 38, 39, 40, 41, 42, 43, 94, 95, 96, 2, 97, 98, 99, 100, 101, 102, 103, 104, 105, 106, 107, 108, 109, 110, 111, 112, 113, 114, 774, 775, 776, 777, 778, 779, 780, 781, 810, 811, 812, 796, 797, 798, 799, 800, 801, 802, 803, 804, 805, 806, 807, 808, 809] (by decide +kernel) (by decide +kernel)
set_option maxRecDepth 20000 in
theorem gL_law_X3_set : GoodIn wsL_law (wsV RL 13 RX3 yX3_set wsX3_set) := goodIn_app (goodIn_of _ (by decide +kernel)) ggL_law_X3_set
set_option maxRecDepth 20000 in
theorem ggL_law_X4_set : GoodIn wsL_law wsX4_set := goodIn_r _ [118, 68, 119, 120, 5, 121, 122, 123, 124, 125, 126, 127, 128, 129, 69, 782, 783, 784, 785, 786, 787, 788, 789, 790, 791, 792, 793, 794, 795] (by decide +kernel) (by decide +kernel)
set_option maxRecDepth 20000 in
theorem gL_law_X4_set : GoodIn wsL_law (wsV RL 17 RX4 yX4_set wsX4_set) := goodIn_app (goodIn_of _ (by decide +kernel)) ggL_law_X4_set
set_option maxRecDepth 20000 in
theorem ggL_law_X3_setting : GoodIn wsL_law wsX3_setting := goodIn_r _ [133, 15, 100, 101, 102, 2, 103, 774, 775, 776, 777, 778, 779, 780, 781, 796, 797, 798, 799, 800, 801, 802, 803, 804, 805, 806, 807, 808, 809] (by decide +kernel) (by decide +kernel)
set_option maxRecDepth 20000 in
theorem gL_law_X3_setting : GoodIn wsL_law (wsV RL 18 RX3 yX3_setting wsX3_setting) := goodIn_app (goodIn_of _ (by decide +kernel)) ggL_law_X3_setting
set_option maxRecDepth 20000 in
theorem ggL_law_X4_setting : GoodIn wsL_law wsX4_setting := goodIn_r _ [137, 68, 122, 123, 5, 124, 782, 783, 784, 785, 786, 787, 788, 789, 790, 791, 792, 793, 794, 795] (by decide +kernel) (by decide +kernel)
set_option maxRecDepth 20000 in
theorem gL_law_X4_setting : GoodIn wsL_law (wsV RL 22 RX4 yX4_setting wsX4_setting) := goodIn_app (goodIn_of _ (by decide +kernel)) ggL_law_X4_setting
set_option maxRecDepth 20000 in
theorem ggL_law_X3_come : GoodIn wsL_law wsX3_come := goodIn_r _ [141, 21, 15, 80, 81, 82, 20, 83, 57, 84, 85, 86, 87, 88, 14, 89, 90, 91, 92, 93, 34, 44, 45, 46, 47, 35, 36, 37, 38, 39, 40, 41, 42, 43, 142, 143, 144, 2, 145, 146, 147, 101, 102, 103, 148, 149, 150, 151, 152, 153, 154, 155, 156, 157, 158, 159, 160, 161, 162, 163, 164, 165, 166, 167, 168, 169, 170, 171, 172, 173, 174, 175, 176, 177, 178, 179, 180, 181, 182, 27, 28, 183, 184, 185, 186, 187, 188, 189, 190, 191, 192, 193, 194, 195, 104, 105, 106, 107, 108, 109, 110, 111, 112, 113, 114, 774, 775, 776, 777, 778, 779, 780, 781, 810, 811, 812, 796, 797, 798, 799, 800, 801, 802, 803, 804, 805, 806, 807, 808, 809] (by decide +kernel) (by decide +kernel)
set_option maxRecDepth 20000 in
theorem gL_law_X3_come : GoodIn wsL_law (wsV RL 23 RX3 yX3_come wsX3_come) := goodIn_app (goodIn_of _ (by decide +kernel)) ggL_law_X3_come
set_option maxRecDepth 20000 in
theorem ggL_law_X4_come : GoodIn wsL_law wsX4_come := goodIn_r _ [199, 200, 201, 202, 5, 203, 204, 205, 206, 122, 123, 124, 207, 208, 209, 210, 211, 212, 213, 214, 215, 216, 217, 218, 68, 219, 220, 221, 222, 223, 224, 225, 226, 227, 228, 229, 230, 231, 232, 233, 234, 235, 236, 237, 72, 73, 125, 126, 127, 128, 129, 69, 238, 239, 240, 241, 242, 243, 244, 245, 246, 247, 248, 249, 250, 251, 252, 782, 783, 784, 785, 786, 787, 788, 789, 790, 791, 792, 793, 794, 795] (by decide +kernel) (by decide +kernel)
set_option maxRecDepth 20000 in
theorem gL_law_X4_come : GoodIn wsL_law (wsV RL 26 RX4 yX4_come wsX4_come) := goodIn_app (goodIn_of _ (by decide +kernel)) ggL_law_X4_come
set_option maxRecDepth 20000 in
theorem ggL_law_X3_fetch : GoodIn wsL_law wsX3_fetch := goodIn_r _ [256, 21, 15, 80, 81, 82, 20, 83, 57, 84, 85, 86, 87, 88, 14, 89, 90, 91, 92, 93, 34, 44, 45, 46, 47, 35, 36, 37, 38, 39, 40, 41, 42, 43, 257, 258, 259, 2, 260, 261, 262, 263, 264, 101, 102, 103, 265, 266, 267, 268, 179, 180, 181, 182, 27, 28, 269, 270, 271, 272, 273, 274, 275, 276, 277, 193, 194, 195, 278, 165, 166, 279, 280, 281, 282, 283, 284, 285, 286, 287, 288, 289, 290, 104, 105, 106, 107, 108, 109, 110, 111, 112, 113, 114, 774, 775, 776, 777, 778, 779, 780, 781, 810, 811, 812, 796, 797, 798, 799, 800, 801, 802, 803, 804, 805, 806, 807, 808, 809] (by decide +kernel) (by decide +kernel)
set_option maxRecDepth 20000 in
theorem gL_law_X3_fetch : GoodIn wsL_law (wsV RL 27 RX3 yX3_fetch wsX3_fetch) := goodIn_app (goodIn_of _ (by decide +kernel)) ggL_law_X3_fetch
set_option maxRecDepth 20000 in
theorem ggL_law_X4_fetch : GoodIn wsL_law wsX4_fetch := goodIn_r _ [294, 295, 296, 297, 5, 298, 122, 123, 124, 299, 300, 301, 302, 68, 234, 235, 236, 237, 72, 73, 125, 126, 127, 128, 129, 69, 303, 304, 305, 306, 307, 308, 309, 310, 311, 312, 313, 250, 251, 252, 211, 212, 213, 214, 215, 216, 217, 218, 314, 315, 316, 317, 318, 319, 320, 321, 322, 323, 324, 325, 782, 783, 784, 785, 786, 787, 788, 789, 790, 791, 792, 793, 794, 795] (by decide +kernel) (by decide +kernel)
set_option maxRecDepth 20000 in
theorem gL_law_X4_fetch : GoodIn wsL_law (wsV RL 30 RX4 yX4_fetch wsX4_fetch) := goodIn_app (goodIn_of _ (by decide +kernel)) ggL_law_X4_fetch
set_option maxRecDepth 20000 in
theorem ggL_law_X3_refuse : GoodIn wsL_law wsX3_refuse := goodIn_r _ [329, 21, 15, 80, 81, 82, 20, 83, 57, 84, 85, 86, 87, 88, 14, 89, 90, 91, 92, 93, 34, 44, 45, 46, 47, 35, 36, 37, 38, 39, 40, 41, 42, 43, 330, 331, 332, 2, 333, 264, 334, 269, 270, 271, 272, 273, 274, 101, 102, 103, 275, 276, 277, 193, 194, 195, 278, 165, 166, 335, 336, 337, 338, 339, 340, 168, 169, 170, 179, 180, 181, 182, 27, 28, 287, 288, 289, 290, 104, 105, 106, 107, 108, 109, 110, 111, 112, 113, 114, 774, 775, 776, 777, 778, 779, 780, 781, 810, 811, 812, 796, 797, 798, 799, 800, 801, 802, 803, 804, 805, 806, 807, 808, 809] (by decide +kernel) (by decide +kernel)
set_option maxRecDepth 20000 in
theorem gL_law_X3_refuse : GoodIn wsL_law (wsV RL 31 RX3 yX3_refuse wsX3_refuse) := goodIn_app (goodIn_of _ (by decide +kernel)) ggL_law_X3_refuse
set_option maxRecDepth 20000 in
theorem ggL_law_X4_refuse : GoodIn wsL_law wsX4_refuse := goodIn_r _ [344, 345, 346, 347, 5, 348, 307, 308, 309, 310, 311, 312, 313, 122, 123, 124, 250, 251, 252, 211, 212, 213, 214, 215, 216, 217, 218, 68, 349, 350, 351, 352, 226, 227, 228, 229, 234, 235, 236, 237, 72, 73, 353, 354, 355, 356, 125, 126, 127, 128, 129, 69, 357, 358, 359, 360, 318, 319, 320, 321, 322, 323, 324, 325, 782, 783, 784, 785, 786, 787, 788, 789, 790, 791, 792, 793, 794, 795] (by decide +kernel) (by decide +kernel)
set_option maxRecDepth 20000 in
theorem gL_law_X4_refuse : GoodIn wsL_law (wsV RL 34 RX4 yX4_refuse wsX4_refuse) := goodIn_app (goodIn_of _ (by decide +kernel)) ggL_law_X4_refuse
set_option maxRecDepth 20000 in
theorem ggL_law_X3_move : GoodIn wsL_law wsX3_move := goodIn_r _ [364, 21, 15, 80, 81, 82, 20, 83, 57, 84, 85, 86, 87, 88, 14, 89, 90, 91, 92, 93, 34, 44, 45, 46, 47, 35, 36, 37, 38, 39, 40, 41, 42, 43, 365, 366, 367, 2, 368, 369, 264, 370, 269, 270, 271, 272, 273, 274, 101, 102, 103, 275, 276, 277, 193, 194, 195, 278, 165, 166, 335, 336, 337, 338, 339, 340, 168, 169, 170, 179, 180, 181, 182, 27, 28, 371, 372, 373, 151, 152, 153, 154, 155, 156, 157, 158, 159, 160, 161, 162, 163, 164, 167, 171, 172, 173, 174, 175, 176, 177, 178, 183, 184, 185, 186, 287, 288, 289, 290, 187, 188, 189, 190, 191, 192, 104, 105, 106, 107, 108, 109, 110, 111, 112, 113, 114, 774, 775, 776, 777, 778, 779, 780, 781, 810, 811, 812, 796, 797, 798, 799, 800, 801, 802, 803, 804, 805, 806, 807, 808, 809] (by decide +kernel) (by decide +kernel)
set_option maxRecDepth 20000 in
theorem gL_law_X3_move : GoodIn wsL_law (wsV RL 35 RX3 yX3_move wsX3_move) := goodIn_app (goodIn_of _ (by decide +kernel)) ggL_law_X3_move
set_option maxRecDepth 20000 in
theorem ggL_law_X4_move : GoodIn wsL_law wsX4_move := goodIn_r _ [377, 378, 379, 380, 5, 381, 307, 308, 309, 310, 311, 312, 313, 122, 123, 124, 250, 251, 252, 211, 212, 213, 214, 215, 216, 217, 218, 68, 349, 350, 351, 352, 226, 227, 228, 229, 234, 235, 236, 237, 72, 73, 207, 208, 209, 210, 219, 220, 221, 222, 223, 224, 225, 230, 231, 232, 233, 125, 126, 127, 128, 129, 69, 382, 383, 384, 385, 242, 243, 244, 245, 322, 323, 324, 325, 246, 247, 248, 249, 782, 783, 784, 785, 786, 787, 788, 789, 790, 791, 792, 793, 794, 795] (by decide +kernel) (by decide +kernel)
set_option maxRecDepth 20000 in
theorem gL_law_X4_move : GoodIn wsL_law (wsV RL 38 RX4 yX4_move wsX4_move) := goodIn_app (goodIn_of _ (by decide +kernel)) ggL_law_X4_move
set_option maxRecDepth 20000 in
theorem ggL_law_X3_pass : GoodIn wsL_law wsX3_pass := goodIn_r _ [389, 21, 15, 80, 81, 82, 20, 83, 57, 84, 85, 86, 87, 88, 14, 89, 90, 91, 92, 93, 34, 44, 45, 46, 47, 35, 36, 37, 38, 39, 40, 41, 42, 43, 390, 391, 392, 2, 393, 146, 101, 102, 103, 394, 395, 396, 397, 398, 399, 400, 401, 402, 403, 404, 405, 406, 407, 408, 409, 410, 411, 412, 413, 414, 288, 289, 290, 165, 166, 104, 105, 106, 107, 108, 109, 110, 111, 112, 113, 114, 774, 775, 776, 777, 778, 779, 780, 781, 810, 811, 812, 796, 797, 798, 799, 800, 801, 802, 803, 804, 805, 806, 807, 808, 809] (by decide +kernel) (by decide +kernel)
set_option maxRecDepth 20000 in
theorem gL_law_X3_pass : GoodIn wsL_law (wsV RL 39 RX3 yX3_pass wsX3_pass) := goodIn_app (goodIn_of _ (by decide +kernel)) ggL_law_X3_pass
set_option maxRecDepth 20000 in
theorem ggL_law_X4_pass : GoodIn wsL_law wsX4_pass := goodIn_r _ [418, 419, 420, 421, 5, 422, 68, 122, 123, 124, 125, 126, 127, 128, 129, 69, 423, 424, 425, 426, 427, 428, 429, 430, 353, 354, 355, 356, 431, 432, 433, 434, 318, 319, 320, 321, 211, 212, 213, 214, 215, 216, 217, 218, 357, 358, 359, 360, 322, 323, 324, 325, 782, 783, 784, 785, 786, 787, 788, 789, 790, 791, 792, 793, 794, 795] (by decide +kernel) (by decide +kernel)
set_option maxRecDepth 20000 in
theorem gL_law_X4_pass : GoodIn wsL_law (wsV RL 42 RX4 yX4_pass wsX4_pass) := goodIn_app (goodIn_of _ (by decide +kernel)) ggL_law_X4_pass
set_option maxRecDepth 20000 in
theorem ggL_law_X3_call : GoodIn wsL_law wsX3_call := goodIn_r _ [438, 21, 15, 80, 81, 82, 20, 83, 57, 84, 85, 86, 87, 88, 14, 89, 90, 91, 92, 93, 34, 44, 45, 46, 47, 35, 36, 37, 38, 39, 40, 41, 42, 43, 439, 440, 441, 2, 442, 334, 101, 102, 103, 443, 403, 404, 405, 104, 105, 106, 107, 108, 109, 110, 111, 112, 113, 114, 774, 775, 776, 777, 778, 779, 780, 781, 810, 811, 812, 796, 797, 798, 799, 800, 801, 802, 803, 804, 805, 806, 807, 808, 809] (by decide +kernel) (by decide +kernel)
set_option maxRecDepth 20000 in
theorem gL_law_X3_call : GoodIn wsL_law (wsV RL 43 RX3 yX3_call wsX3_call) := goodIn_app (goodIn_of _ (by decide +kernel)) ggL_law_X3_call
set_option maxRecDepth 20000 in
theorem ggL_law_X4_call : GoodIn wsL_law wsX4_call := goodIn_r _ [447, 204, 205, 5, 206, 122, 123, 124, 353, 354, 355, 356, 68, 125, 126, 127, 128, 129, 69, 431, 432, 433, 434, 318, 319, 320, 321, 782, 783, 784, 785, 786, 787, 788, 789, 790, 791, 792, 793, 794, 795] (by decide +kernel) (by decide +kernel)
set_option maxRecDepth 20000 in
theorem gL_law_X4_call : GoodIn wsL_law (wsV RL 46 RX4 yX4_call wsX4_call) := goodIn_app (goodIn_of _ (by decide +kernel)) ggL_law_X4_call
set_option maxRecDepth 20000 in
theorem ggL_law_X3_day : GoodIn wsL_law wsX3_day := goodIn_r _ [451, 15, 146, 774, 775, 776, 777, 778, 779, 780, 781, 796, 797, 798, 799, 800, 801, 802, 803, 804, 805, 806, 807, 808, 809] (by decide +kernel) (by decide +kernel)
set_option maxRecDepth 20000 in
theorem gL_law_X3_day : GoodIn wsL_law (wsV RL 47 RX3 yX3_day wsX3_day) := goodIn_app (goodIn_of _ (by decide +kernel)) ggL_law_X3_day
set_option maxRecDepth 20000 in
theorem ggL_law_X4_day : GoodIn wsL_law wsX4_day := goodIn_r _ [455, 68, 782, 783, 784, 785, 786, 787, 788, 789, 790, 791, 792, 793, 794, 795] (by decide +kernel) (by decide +kernel)
set_option maxRecDepth 20000 in
theorem gL_law_X4_day : GoodIn wsL_law (wsV RL 51 RX4 yX4_day wsX4_day) := goodIn_app (goodIn_of _ (by decide +kernel)) ggL_law_X4_day
set_option maxRecDepth 20000 in
theorem ggL_law_X3_parcel : GoodIn wsL_law wsX3_parcel := goodIn_r _ [459, 15, 264, 369, 370, 269, 270, 271, 14, 272, 35, 273, 2, 274, 101, 102, 103, 275, 276, 277, 193, 194, 195, 278, 165, 166, 279, 280, 281, 282, 90, 38, 34, 283, 284, 285, 286, 37, 774, 775, 776, 777, 778, 779, 780, 781, 796, 797, 798, 799, 800, 801, 802, 803, 804, 805, 806, 807, 808, 809] (by decide +kernel) (by decide +kernel)
set_option maxRecDepth 20000 in
theorem gL_law_X3_parcel : GoodIn wsL_law (wsV RL 52 RX3 yX3_parcel wsX3_parcel) := goodIn_app (goodIn_of _ (by decide +kernel)) ggL_law_X3_parcel
set_option maxRecDepth 20000 in
theorem ggL_law_X4_parcel : GoodIn wsL_law wsX4_parcel := goodIn_r _ [463, 68, 307, 308, 309, 5, 310, 311, 312, 313, 122, 123, 124, 250, 251, 252, 211, 212, 213, 214, 215, 216, 217, 218, 314, 315, 316, 317, 782, 783, 784, 785, 786, 787, 788, 789, 790, 791, 792, 793, 794, 795] (by decide +kernel) (by decide +kernel)
set_option maxRecDepth 20000 in
theorem gL_law_X4_parcel : GoodIn wsL_law (wsV RL 55 RX4 yX4_parcel wsX4_parcel) := goodIn_app (goodIn_of _ (by decide +kernel)) ggL_law_X4_parcel
set_option maxRecDepth 20000 in
theorem ggL_law_X3_codeAt : GoodIn wsL_law wsX3_codeAt := goodIn_r _ [467, 15, 275, 276, 2, 277, 101, 102, 103, 468, 156, 157, 14, 158, 35, 187, 188, 189, 190, 191, 192, 193, 194, 195, 774, 775, 776, 777, 778, 779, 780, 781, 796, 797, 798, 799, 800, 801, 802, 803, 804, 805, 806, 807, 808, 809] (by decide +kernel) (by decide +kernel)
set_option maxRecDepth 20000 in
theorem gL_law_X3_codeAt : GoodIn wsL_law (wsV RL 56 RX3 yX3_codeAt wsX3_codeAt) := goodIn_app (goodIn_of _ (by decide +kernel)) ggL_law_X3_codeAt
set_option maxRecDepth 20000 in
theorem ggL_law_X4_codeAt : GoodIn wsL_law wsX4_codeAt := goodIn_r _ [472, 473, 474, 5, 475, 122, 123, 124, 211, 212, 213, 214, 215, 216, 217, 218, 68, 246, 247, 248, 249, 250, 251, 252, 782, 783, 784, 785, 786, 787, 788, 789, 790, 791, 792, 793, 794, 795] (by decide +kernel) (by decide +kernel)
set_option maxRecDepth 20000 in
theorem gL_law_X4_codeAt : GoodIn wsL_law (wsV RL 59 RX4 yX4_codeAt wsX4_codeAt) := goodIn_app (goodIn_of _ (by decide +kernel)) ggL_law_X4_codeAt
set_option maxRecDepth 20000 in
theorem ggL_law_X3_shelf : GoodIn wsL_law wsX3_shelf := goodIn_r _ [479, 15, 101, 102, 2, 103, 371, 372, 373, 480, 481, 482, 14, 483, 155, 156, 157, 158, 35, 484, 485, 486, 487, 159, 160, 161, 162, 90, 163, 164, 165, 166, 167, 168, 169, 170, 39, 34, 774, 775, 776, 777, 778, 779, 780, 781, 796, 797, 798, 799, 800, 801, 802, 803, 804, 805, 806, 807, 808, 809] (by decide +kernel) (by decide +kernel)
set_option maxRecDepth 20000 in
theorem gL_law_X3_shelf : GoodIn wsL_law (wsV RL 60 RX3 yX3_shelf wsX3_shelf) := goodIn_app (goodIn_of _ (by decide +kernel)) ggL_law_X3_shelf
set_option maxRecDepth 20000 in
theorem ggL_law_X4_shelf : GoodIn wsL_law wsX4_shelf := goodIn_r _ [491, 122, 123, 5, 124, 211, 212, 213, 214, 215, 216, 217, 218, 68, 219, 220, 221, 222, 223, 224, 225, 226, 227, 228, 229, 782, 783, 784, 785, 786, 787, 788, 789, 790, 791, 792, 793, 794, 795] (by decide +kernel) (by decide +kernel)
set_option maxRecDepth 20000 in
theorem gL_law_X4_shelf : GoodIn wsL_law (wsV RL 63 RX4 yX4_shelf wsX4_shelf) := goodIn_app (goodIn_of _ (by decide +kernel)) ggL_law_X4_shelf
set_option maxRecDepth 20000 in
theorem ggL_law_X3_sender : GoodIn wsL_law wsX3_sender := goodIn_r _ [495, 15, 334, 496, 263, 497, 101, 102, 2, 103, 498, 499, 500, 14, 501, 36, 155, 156, 157, 158, 35, 774, 775, 776, 777, 778, 779, 780, 781, 796, 797, 798, 799, 800, 801, 802, 803, 804, 805, 806, 807, 808, 809] (by decide +kernel) (by decide +kernel)
set_option maxRecDepth 20000 in
theorem gL_law_X3_sender : GoodIn wsL_law (wsV RL 64 RX3 yX3_sender wsX3_sender) := goodIn_app (goodIn_of _ (by decide +kernel)) ggL_law_X3_sender
set_option maxRecDepth 20000 in
theorem ggL_law_X4_sender : GoodIn wsL_law wsX4_sender := goodIn_r _ [505, 204, 205, 5, 206, 122, 123, 124, 215, 216, 217, 218, 68, 353, 354, 355, 356, 782, 783, 784, 785, 786, 787, 788, 789, 790, 791, 792, 793, 794, 795] (by decide +kernel) (by decide +kernel)
set_option maxRecDepth 20000 in
theorem gL_law_X4_sender : GoodIn wsL_law (wsV RL 67 RX4 yX4_sender wsX4_sender) := goodIn_app (goodIn_of _ (by decide +kernel)) ggL_law_X4_sender
set_option maxRecDepth 20000 in
theorem ggL_law_X3_total : GoodIn wsL_law wsX3_total := goodIn_r _ [509, 15, 334, 147, 263, 497, 262, 496, 261, 510, 511, 512, 14, 513, 514, 481, 482, 483, 155, 156, 157, 158, 35, 515, 516, 2, 517, 265, 266, 267, 268, 91, 518, 519, 520, 521, 522, 280, 281, 282, 90, 38, 34, 283, 284, 285, 286, 37, 774, 775, 776, 777, 778, 779, 780, 781, 796, 797, 798, 799, 800, 801, 802, 803, 804, 805, 806, 807, 808, 809] (by decide +kernel) (by decide +kernel)
set_option maxRecDepth 20000 in
theorem gL_law_X3_total : GoodIn wsL_law (wsV RL 68 RX3 yX3_total wsX3_total) := goodIn_app (goodIn_of _ (by decide +kernel)) ggL_law_X3_total
set_option maxRecDepth 20000 in
theorem ggL_law_X4_total : GoodIn wsL_law wsX4_total := goodIn_r _ [526, 68, 527, 528, 529, 5, 530, 211, 212, 213, 214, 215, 216, 217, 218, 531, 532, 533, 534, 353, 354, 355, 356, 299, 300, 301, 302, 535, 536, 537, 538, 314, 315, 316, 317, 782, 783, 784, 785, 786, 787, 788, 789, 790, 791, 792, 793, 794, 795] (by decide +kernel) (by decide +kernel)
set_option maxRecDepth 20000 in
theorem gL_law_X4_total : GoodIn wsL_law (wsV RL 71 RX4 yX4_total wsX4_total) := goodIn_app (goodIn_of _ (by decide +kernel)) ggL_law_X4_total
set_option maxRecDepth 20000 in
theorem ggL_law_X3_refusal : GoodIn wsL_law wsX3_refusal := goodIn_r _ [542, 27, 28, 774, 775, 776, 777, 778, 779, 780, 781] (by decide +kernel) (by decide +kernel)
set_option maxRecDepth 20000 in
theorem gL_law_X3_refusal : GoodIn wsL_law (wsV RL 72 RX3 yX3_refusal wsX3_refusal) := goodIn_app (goodIn_of _ (by decide +kernel)) ggL_law_X3_refusal
set_option maxRecDepth 20000 in
theorem ggL_law_X4_refusal : GoodIn wsL_law wsX4_refusal := goodIn_r _ [546, 72, 73, 782, 783, 784, 785, 786, 787, 788, 789, 790, 791, 792, 793, 794, 795] (by decide +kernel) (by decide +kernel)
set_option maxRecDepth 20000 in
theorem gL_law_X4_refusal : GoodIn wsL_law (wsV RL 75 RX4 yX4_refusal wsX4_refusal) := goodIn_app (goodIn_of _ (by decide +kernel)) ggL_law_X4_refusal
set_option maxRecDepth 20000 in
theorem ggL_law_X3_isCode : GoodIn wsL_law wsX3_isCode := goodIn_r _ [550, 101, 102, 2, 103, 339, 273, 274, 275, 276, 277, 193, 194, 195, 278, 165, 166] (by decide +kernel) (by decide +kernel)
set_option maxRecDepth 20000 in
theorem gL_law_X3_isCode : GoodIn wsL_law (wsV RL 76 RX3 yX3_isCode wsX3_isCode) := goodIn_app (goodIn_of _ (by decide +kernel)) ggL_law_X3_isCode
set_option maxRecDepth 20000 in
theorem ggL_law_X4_isCode : GoodIn wsL_law wsX4_isCode := goodIn_r _ [554, 122, 123, 5, 124, 311, 312, 313, 250, 251, 252] (by decide +kernel) (by decide +kernel)
set_option maxRecDepth 20000 in
theorem gL_law_X4_isCode : GoodIn wsL_law (wsV RL 79 RX4 yX4_isCode wsX4_isCode) := goodIn_app (goodIn_of _ (by decide +kernel)) ggL_law_X4_isCode
set_option maxRecDepth 20000 in
theorem ggL_law_X3_codeOf : GoodIn wsL_law wsX3_codeOf := goodIn_r _ [558, 275, 276, 2, 277, 101, 102, 103, 559, 163, 164, 560, 191, 192, 193, 194, 195] (by decide +kernel) (by decide +kernel)
set_option maxRecDepth 20000 in
theorem gL_law_X3_codeOf : GoodIn wsL_law (wsV RL 80 RX3 yX3_codeOf wsX3_codeOf) := goodIn_app (goodIn_of _ (by decide +kernel)) ggL_law_X3_codeOf
set_option maxRecDepth 20000 in
theorem ggL_law_X4_codeOf : GoodIn wsL_law wsX4_codeOf := goodIn_r _ [564, 473, 474, 5, 475, 122, 123, 124, 223, 224, 225, 250, 251, 252] (by decide +kernel) (by decide +kernel)
set_option maxRecDepth 20000 in
theorem gL_law_X4_codeOf : GoodIn wsL_law (wsV RL 84 RX4 yX4_codeOf wsX4_codeOf) := goodIn_app (goodIn_of _ (by decide +kernel)) ggL_law_X4_codeOf
set_option maxRecDepth 20000 in
theorem ggL_law_X3_restsUntil : GoodIn wsL_law wsX3_restsUntil := goodIn_r _ [568, 15, 569, 100, 101, 102, 2, 103, 339, 273, 274, 275, 276, 277, 193, 194, 195, 278, 165, 166, 340, 168, 169, 14, 170, 39, 90, 34, 774, 775, 776, 777, 778, 779, 780, 781, 796, 797, 798, 799, 800, 801, 802, 803, 804, 805, 806, 807, 808, 809] (by decide +kernel) (by decide +kernel)
set_option maxRecDepth 20000 in
theorem gL_law_X3_restsUntil : GoodIn wsL_law (wsV RL 85 RX3 yX3_restsUntil wsX3_restsUntil) := goodIn_app (goodIn_of _ (by decide +kernel)) ggL_law_X3_restsUntil
set_option maxRecDepth 20000 in
theorem ggL_law_X4_restsUntil : GoodIn wsL_law wsX4_restsUntil := goodIn_r _ [573, 122, 123, 5, 124, 311, 312, 313, 250, 251, 252, 226, 227, 228, 229, 68, 782, 783, 784, 785, 786, 787, 788, 789, 790, 791, 792, 793, 794, 795] (by decide +kernel) (by decide +kernel)
set_option maxRecDepth 20000 in
theorem gL_law_X4_restsUntil : GoodIn wsL_law (wsV RL 88 RX4 yX4_restsUntil wsX4_restsUntil) := goodIn_app (goodIn_of _ (by decide +kernel)) ggL_law_X4_restsUntil
set_option maxRecDepth 20000 in
theorem ggL_law_X3_nextCode : GoodIn wsL_law wsX3_nextCode := goodIn_r _ [577, 15, 146, 101, 102, 2, 103, 148, 149, 150, 151, 152, 153, 14, 154, 155, 156, 157, 158, 35, 159, 160, 161, 162, 90, 163, 164, 165, 166, 167, 168, 169, 170, 39, 34, 559, 560, 191, 192, 193, 194, 195, 774, 775, 776, 777, 778, 779, 780, 781, 796, 797, 798, 799, 800, 801, 802, 803, 804, 805, 806, 807, 808, 809] (by decide +kernel) (by decide +kernel)
set_option maxRecDepth 20000 in
theorem gL_law_X3_nextCode : GoodIn wsL_law (wsV RL 89 RX3 yX3_nextCode wsX3_nextCode) := goodIn_app (goodIn_of _ (by decide +kernel)) ggL_law_X3_nextCode
set_option maxRecDepth 20000 in
theorem ggL_law_X4_nextCode : GoodIn wsL_law wsX4_nextCode := goodIn_r _ [581, 68, 122, 123, 5, 124, 207, 208, 209, 210, 211, 212, 213, 214, 215, 216, 217, 218, 219, 220, 221, 222, 223, 224, 225, 226, 227, 228, 229, 250, 251, 252, 782, 783, 784, 785, 786, 787, 788, 789, 790, 791, 792, 793, 794, 795] (by decide +kernel) (by decide +kernel)
set_option maxRecDepth 20000 in
theorem gL_law_X4_nextCode : GoodIn wsL_law (wsV RL 92 RX4 yX4_nextCode wsX4_nextCode) := goodIn_app (goodIn_of _ (by decide +kernel)) ggL_law_X4_nextCode
set_option maxRecDepth 20000 in
theorem ggL_law_X3_feeIn : GoodIn wsL_law wsX3_feeIn := goodIn_r _ [585, 15, 269, 270, 271, 14, 272, 35, 273, 2, 274, 101, 102, 103, 275, 276, 277, 193, 194, 195, 278, 165, 166, 279, 280, 281, 282, 90, 38, 34, 283, 284, 285, 286, 37, 774, 775, 776, 777, 778, 779, 780, 781, 796, 797, 798, 799, 800, 801, 802, 803, 804, 805, 806, 807, 808, 809] (by decide +kernel) (by decide +kernel)
set_option maxRecDepth 20000 in
theorem gL_law_X3_feeIn : GoodIn wsL_law (wsV RL 93 RX3 yX3_feeIn wsX3_feeIn) := goodIn_app (goodIn_of _ (by decide +kernel)) ggL_law_X3_feeIn
set_option maxRecDepth 20000 in
theorem ggL_law_X4_feeIn : GoodIn wsL_law wsX4_feeIn := goodIn_r _ [589, 68, 307, 308, 309, 5, 310, 311, 312, 313, 122, 123, 124, 250, 251, 252, 211, 212, 213, 214, 215, 216, 217, 218, 314, 315, 316, 317, 782, 783, 784, 785, 786, 787, 788, 789, 790, 791, 792, 793, 794, 795] (by decide +kernel) (by decide +kernel)
set_option maxRecDepth 20000 in
theorem gL_law_X4_feeIn : GoodIn wsL_law (wsV RL 96 RX4 yX4_feeIn wsX4_feeIn) := goodIn_app (goodIn_of _ (by decide +kernel)) ggL_law_X4_feeIn
set_option maxRecDepth 20000 in
theorem ggL_law_X3_goesIn : GoodIn wsL_law wsX3_goesIn := goodIn_r _ [593, 15, 17, 269, 270, 271, 14, 272, 35, 273, 2, 274, 101, 102, 103, 275, 276, 277, 193, 194, 195, 278, 165, 166, 594, 87, 88, 89, 90, 91, 92, 93, 34, 44, 45, 46, 47, 36, 37, 38, 39, 40, 41, 42, 43, 394, 395, 396, 397, 398, 399, 400, 401, 402, 403, 404, 405, 406, 407, 408, 409, 410, 411, 412, 413, 414, 288, 289, 290, 468, 156, 157, 158, 774, 775, 776, 777, 778, 779, 780, 781, 796, 797, 798, 799, 800, 801, 802, 803, 804, 805, 806, 807, 808, 809] (by decide +kernel) (by decide +kernel)
set_option maxRecDepth 20000 in
theorem gL_law_X3_goesIn : GoodIn wsL_law (wsV RL 97 RX3 yX3_goesIn wsX3_goesIn) := goodIn_app (goodIn_of _ (by decide +kernel)) ggL_law_X3_goesIn
set_option maxRecDepth 20000 in
theorem ggL_law_X4_goesIn : GoodIn wsL_law wsX4_goesIn := goodIn_r _ [598, 307, 308, 309, 5, 310, 311, 312, 313, 122, 123, 124, 250, 251, 252, 211, 212, 213, 214, 215, 216, 217, 218, 68, 599, 600, 601, 602, 71, 427, 428, 429, 430, 353, 354, 355, 356, 431, 432, 433, 434, 318, 319, 320, 321, 357, 358, 359, 360, 322, 323, 324, 325, 603, 604, 605, 606, 782, 783, 784, 785, 786, 787, 788, 789, 790, 791, 792, 793, 794, 795] (by decide +kernel) (by decide +kernel)
set_option maxRecDepth 20000 in
theorem gL_law_X4_goesIn : GoodIn wsL_law (wsV RL 100 RX4 yX4_goesIn wsX4_goesIn) := goodIn_app (goodIn_of _ (by decide +kernel)) ggL_law_X4_goesIn
set_option maxRecDepth 20000 in
theorem ggL_law_X3_chargesIn : GoodIn wsL_law wsX3_chargesIn := goodIn_r _ [610, 17, 15, 496, 101, 102, 2, 103, 594, 87, 88, 14, 89, 90, 91, 92, 93, 34, 44, 45, 46, 47, 35, 36, 37, 38, 39, 40, 41, 42, 43, 394, 395, 396, 397, 398, 399, 400, 401, 402, 403, 404, 405, 406, 407, 408, 409, 410, 411, 412, 413, 414, 288, 289, 290, 165, 166, 515, 516, 517, 774, 775, 776, 777, 778, 779, 780, 781, 796, 797, 798, 799, 800, 801, 802, 803, 804, 805, 806, 807, 808, 809] (by decide +kernel) (by decide +kernel)
set_option maxRecDepth 20000 in
theorem gL_law_X3_chargesIn : GoodIn wsL_law (wsV RL 101 RX3 yX3_chargesIn wsX3_chargesIn) := goodIn_app (goodIn_of _ (by decide +kernel)) ggL_law_X3_chargesIn
set_option maxRecDepth 20000 in
theorem ggL_law_X4_chargesIn : GoodIn wsL_law wsX4_chargesIn := goodIn_r _ [614, 68, 122, 123, 5, 124, 599, 600, 601, 602, 71, 423, 424, 425, 426, 427, 428, 429, 430, 353, 354, 355, 356, 431, 432, 433, 434, 318, 319, 320, 321, 211, 212, 213, 214, 215, 216, 217, 218, 357, 358, 359, 360, 322, 323, 324, 325, 603, 604, 605, 606, 782, 783, 784, 785, 786, 787, 788, 789, 790, 791, 792, 793, 794, 795] (by decide +kernel) (by decide +kernel)
set_option maxRecDepth 20000 in
theorem gL_law_X4_chargesIn : GoodIn wsL_law (wsV RL 104 RX4 yX4_chargesIn wsX4_chargesIn) := goodIn_app (goodIn_of _ (by decide +kernel)) ggL_law_X4_chargesIn
set_option maxRecDepth 20000 in
theorem ggL_law_X3_append : GoodIn wsL_law wsX3_append := goodIn_r _ [618, 25, 101, 102, 2, 103, 619, 620, 621, 24, 622, 623, 624, 625, 626, 627, 63, 774, 775, 776, 777, 778, 779, 780, 781, 813, 814] (by decide +kernel) (by decide +kernel)
set_option maxRecDepth 20000 in
theorem gL_law_X3_append : GoodIn wsL_law (wsV RL 105 RX3 yX3_append wsX3_append) := goodIn_app (goodIn_of _ (by decide +kernel)) ggL_law_X3_append
set_option maxRecDepth 20000 in
theorem ggL_law_X4_append : GoodIn wsL_law wsX4_append := goodIn_r _ [631, 632, 74, 122, 123, 5, 124, 782, 783, 784, 785, 786, 787, 788, 789, 790, 791, 792, 793, 794, 795] (by decide +kernel) (by decide +kernel)
set_option maxRecDepth 20000 in
theorem gL_law_X4_append : GoodIn wsL_law (wsV RL 108 RX4 yX4_append wsX4_append) := goodIn_app (goodIn_of _ (by decide +kernel)) ggL_law_X4_append
set_option maxRecDepth 20000 in
theorem ggL_law_X3_clearText : GoodIn wsL_law wsX3_clearText := goodIn_r _ [636, 25, 637, 638, 639, 24, 640, 623, 774, 775, 776, 777, 778, 779, 780, 781, 813, 814] (by decide +kernel) (by decide +kernel)
set_option maxRecDepth 20000 in
theorem gL_law_X3_clearText : GoodIn wsL_law (wsV RL 109 RX3 yX3_clearText wsX3_clearText) := goodIn_app (goodIn_of _ (by decide +kernel)) ggL_law_X3_clearText
set_option maxRecDepth 20000 in
theorem ggL_law_X4_clearText : GoodIn wsL_law wsX4_clearText := goodIn_r _ [644, 632, 782, 783, 784, 785, 786, 787, 788, 789, 790, 791, 792, 793, 794, 795] (by decide +kernel) (by decide +kernel)
set_option maxRecDepth 20000 in
theorem gL_law_X4_clearText : GoodIn wsL_law (wsV RL 112 RX4 yX4_clearText wsX4_clearText) := goodIn_app (goodIn_of _ (by decide +kernel)) ggL_law_X4_clearText
set_option maxRecDepth 20000 in
theorem ggL_law_X3_errorPosition : GoodIn wsL_law wsX3_errorPosition := goodIn_r _ [648, 25, 649, 650, 651, 24, 652, 623, 653, 654, 655, 656, 63, 102, 2, 103, 657, 658, 659, 660, 661, 662, 663, 664, 665, 666, 667, 668, 669, 670, 671, 672, 673, 674, 675, 676, 677, 774, 775, 776, 777, 778, 779, 780, 781, 813, 814] (by decide +kernel) (by decide +kernel)
set_option maxRecDepth 20000 in
theorem gL_law_X3_errorPosition : GoodIn wsL_law (wsV RL 113 RX3 yX3_errorPosition wsX3_errorPosition) := goodIn_app (goodIn_of _ (by decide +kernel)) ggL_law_X3_errorPosition
set_option maxRecDepth 20000 in
theorem ggL_law_X4_errorPosition : GoodIn wsL_law wsX4_errorPosition := goodIn_r _ [681, 682, 683, 684, 632, 685, 686, 687, 5, 688, 75, 689, 690, 691, 692, 74, 693, 694, 695, 696, 697, 698, 699, 700, 122, 123, 124, 701, 702, 703, 704, 705, 706, 707, 708, 782, 783, 784, 785, 786, 787, 788, 789, 790, 791, 792, 793, 794, 795] (by decide +kernel) (by decide +kernel)
set_option maxRecDepth 20000 in
theorem gL_law_X4_errorPosition : GoodIn wsL_law (wsV RL 116 RX4 yX4_errorPosition wsX4_errorPosition) := goodIn_app (goodIn_of _ (by decide +kernel)) ggL_law_X4_errorPosition
set_option maxRecDepth 20000 in
theorem ggL_law_X3_execute : GoodIn wsL_law wsX3_execute := goodIn_r _ [712, 25, 21, 15, 713, 649, 650, 651, 24, 652, 623, 653, 654, 655, 656, 63, 102, 2, 103, 657, 658, 659, 660, 661, 662, 663, 664, 665, 666, 667, 668, 669, 670, 671, 672, 673, 674, 675, 676, 677, 80, 81, 82, 20, 83, 57, 84, 85, 86, 87, 88, 14, 89, 90, 91, 92, 93, 34, 44, 45, 46, 47, 35, 36, 37, 38, 39, 40, 41, 42, 43, 714, 715, 716, 717, 718, 719, 720, 721, 722, 723, 724, 725, 726, 727, 728, 729, 730, 142, 143, 144, 145, 146, 147, 101, 148, 149, 150, 151, 152, 153, 154, 155, 156, 157, 158, 159, 160, 161, 162, 163, 164, 165, 166, 167, 168, 169, 170, 171, 172, 173, 174, 175, 176, 177, 178, 179, 180, 181, 182, 27, 28, 183, 184, 185, 186, 187, 188, 189, 190, 191, 192, 193, 194, 195, 257, 258, 259, 260, 261, 262, 263, 264, 265, 266, 267, 268, 269, 270, 271, 272, 273, 274, 275, 276, 277, 278, 279, 280, 281, 282, 283, 284, 285, 286, 287, 288, 289, 290, 330, 331, 332, 333, 334, 335, 336, 337, 338, 339, 340, 365, 366, 367, 368, 369, 370, 371, 372, 373, 731, 732, 733, 734, 390, 391, 392, 393, 394, 395, 396, 397, 398, 399, 400, 401, 402, 403, 404, 405, 406, 407, 408, 409, 410, 411, 412, 413, 414, 108, 109, 110, 637, 638, 639, 640, 104, 105, 106, 107, 111, 112, 113, 114, 774, 775, 776, 777, 778, 779, 780, 781, 813, 814, 810, 811, 812, 796, 797, 798, 799, 800, 801, 802, 803, 804, 805, 806, 807, 808, 809] (by decide +kernel) (by decide +kernel)
set_option maxRecDepth 20000 in
theorem gL_law_X3_execute : GoodIn wsL_law (wsV RL 117 RX3 yX3_execute wsX3_execute) := goodIn_app (goodIn_of _ (by decide +kernel)) ggL_law_X3_execute
set_option maxRecDepth 20000 in
theorem ggL_law_X4_execute : GoodIn wsL_law wsX4_execute := goodIn_r _ [738, 682, 632, 739, 679, 680, 5, 681, 683, 684, 685, 686, 687, 688, 75, 689, 690, 691, 692, 74, 693, 694, 695, 696, 697, 698, 699, 700, 122, 123, 124, 701, 702, 703, 704, 705, 706, 707, 708, 125, 126, 127, 128, 129, 69, 68, 740, 741, 742, 743, 200, 201, 202, 203, 204, 205, 206, 207, 208, 209, 210, 211, 212, 213, 214, 215, 216, 217, 218, 219, 220, 221, 222, 223, 224, 225, 226, 227, 228, 229, 230, 231, 232, 233, 234, 235, 236, 237, 72, 73, 238, 239, 240, 241, 242, 243, 244, 245, 246, 247, 248, 249, 250, 251, 252, 295, 296, 297, 298, 299, 300, 301, 302, 303, 304, 305, 306, 307, 308, 309, 310, 311, 312, 313, 314, 315, 316, 317, 318, 319, 320, 321, 322, 323, 324, 325, 345, 346, 347, 348, 349, 350, 351, 352, 353, 354, 355, 356, 357, 358, 359, 360, 378, 379, 380, 381, 382, 383, 384, 385, 419, 420, 421, 422, 423, 424, 425, 426, 427, 428, 429, 430, 431, 432, 433, 434, 782, 783, 784, 785, 786, 787, 788, 789, 790, 791, 792, 793, 794, 795] (by decide +kernel) (by decide +kernel)
set_option maxRecDepth 20000 in
theorem gL_law_X4_execute : GoodIn wsL_law (wsV RL 120 RX4 yX4_execute wsX4_execute) := goodIn_app (goodIn_of _ (by decide +kernel)) ggL_law_X4_execute
set_option maxRecDepth 20000 in
theorem ggL_law_X3_undo : GoodIn wsL_law wsX3_undo := goodIn_r _ [747, 21, 748, 15, 749, 750, 751, 20, 752, 85, 57, 84, 86, 87, 88, 14, 89, 90, 91, 92, 93, 34, 44, 45, 46, 47, 35, 36, 37, 38, 39, 40, 41, 42, 43, 774, 775, 776, 777, 778, 779, 780, 781, 810, 811, 812, 796, 797, 798, 799, 800, 801, 802, 803, 804, 805, 806, 807, 808, 809] (by decide +kernel) (by decide +kernel)
set_option maxRecDepth 20000 in
theorem gL_law_X3_undo : GoodIn wsL_law (wsV RL 121 RX3 yX3_undo wsX3_undo) := goodIn_app (goodIn_of _ (by decide +kernel)) ggL_law_X3_undo
set_option maxRecDepth 20000 in
theorem ggL_law_X4_undo : GoodIn wsL_law wsX4_undo := goodIn_r _ [756, 129, 68, 69, 782, 783, 784, 785, 786, 787, 788, 789, 790, 791, 792, 793, 794, 795] (by decide +kernel) (by decide +kernel)
set_option maxRecDepth 20000 in
theorem gL_law_X4_undo : GoodIn wsL_law (wsV RL 124 RX4 yX4_undo wsX4_undo) := goodIn_app (goodIn_of _ (by decide +kernel)) ggL_law_X4_undo
set_option maxRecDepth 20000 in
theorem ggL_law_X3_save : GoodIn wsL_law wsX3_save := goodIn_r _ [760, 16, 15, 26, 594, 87, 88, 14, 89, 90, 91, 92, 93, 34, 44, 45, 46, 47, 35, 36, 37, 38, 39, 40, 41, 42, 43, 510, 511, 512, 513, 514, 481, 482, 483, 155, 156, 157, 158, 774, 775, 776, 777, 778, 779, 780, 781, 796, 797, 798, 799, 800, 801, 802, 803, 804, 805, 806, 807, 808, 809] (by decide +kernel) (by decide +kernel)
set_option maxRecDepth 20000 in
theorem gL_law_X3_save : GoodIn wsL_law (wsV RL 125 RX3 yX3_save wsX3_save) := goodIn_app (goodIn_of _ (by decide +kernel)) ggL_law_X3_save
set_option maxRecDepth 20000 in
theorem ggL_law_X4_save : GoodIn wsL_law wsX4_save := goodIn_r _ [764, 765, 70, 68, 527, 528, 529, 5, 530, 211, 212, 213, 214, 215, 216, 217, 218, 782, 783, 784, 785, 786, 787, 788, 789, 790, 791, 792, 793, 794, 795] (by decide +kernel) (by decide +kernel)
set_option maxRecDepth 20000 in
theorem gL_law_X4_save : GoodIn wsL_law (wsV RL 128 RX4 yX4_save wsX4_save) := goodIn_app (goodIn_of _ (by decide +kernel)) ggL_law_X4_save
set_option maxRecDepth 20000 in
theorem ggL_law_X3_restore : GoodIn wsL_law wsX3_restore := goodIn_r _ [769, 26, 21, 15, 16, 80, 81, 82, 20, 83, 57, 84, 85, 86, 87, 88, 14, 89, 90, 91, 92, 93, 34, 44, 45, 46, 47, 35, 36, 37, 38, 39, 40, 41, 42, 43, 594, 510, 511, 512, 513, 514, 481, 482, 483, 155, 156, 157, 158, 104, 105, 106, 2, 107, 108, 109, 110, 101, 102, 103, 111, 112, 113, 114, 774, 775, 776, 777, 778, 779, 780, 781, 810, 811, 812, 796, 797, 798, 799, 800, 801, 802, 803, 804, 805, 806, 807, 808, 809] (by decide +kernel) (by decide +kernel)
set_option maxRecDepth 20000 in
theorem gL_law_X3_restore : GoodIn wsL_law (wsV RL 129 RX3 yX3_restore wsX3_restore) := goodIn_app (goodIn_of _ (by decide +kernel)) ggL_law_X3_restore
set_option maxRecDepth 20000 in
theorem ggL_law_X4_restore : GoodIn wsL_law wsX4_restore := goodIn_r _ [773, 765, 68, 70, 125, 126, 127, 5, 128, 129, 69, 527, 528, 529, 530, 211, 212, 213, 214, 215, 216, 217, 218, 782, 783, 784, 785, 786, 787, 788, 789, 790, 791, 792, 793, 794, 795] (by decide +kernel) (by decide +kernel)
set_option maxRecDepth 20000 in
theorem gL_law_X4_restore : GoodIn wsL_law (wsV RL 132 RX4 yX4_restore wsX4_restore) := goodIn_app (goodIn_of _ (by decide +kernel)) ggL_law_X4_restore
theorem dL_law_0 : decode cL_law 0 = .ok (.new 7, 3) := by decide +kernel
theorem dL_law_3 : decode cL_law 3 = .ok (.dup, 1) := by decide +kernel
theorem dL_law_4 : decode cL_law 4 = .ok (.invokespecial 9, 3) := by decide +kernel
theorem dL_law_7 : decode cL_law 7 = .ok (.astore_n 1, 1) := by decide +kernel
theorem dL_law_8 : decode cL_law 8 = .ok (.new 10, 3) := by decide +kernel
theorem dL_law_11 : decode cL_law 11 = .ok (.dup, 1) := by decide +kernel
theorem dL_law_12 : decode cL_law 12 = .ok (.invokespecial 12, 3) := by decide +kernel
theorem dL_law_15 : decode cL_law 15 = .ok (.astore_n 2, 1) := by decide +kernel
theorem dL_law_16 : decode cL_law 16 = .ok (.iconst 0, 1) := by decide +kernel
theorem dL_law_17 : decode cL_law 17 = .ok (.istore_n 3, 1) := by decide +kernel
theorem dL_law_18 : decode cL_law 18 = .ok (.iload_n 3, 1) := by decide +kernel
theorem dL_law_19 : decode cL_law 19 = .ok (.aload_n 0, 1) := by decide +kernel
theorem dL_law_20 : decode cL_law 20 = .ok (.arraylength, 1) := by decide +kernel
theorem dL_law_21 : decode cL_law 21 = .ok (.iconst 4, 1) := by decide +kernel
theorem dL_law_22 : decode cL_law 22 = .ok (.isub, 1) := by decide +kernel
theorem dL_law_23 : decode cL_law 23 = .ok (.if_icmp .gt 844, 3) := by decide +kernel
theorem dL_law_26 : decode cL_law 26 = .ok (.aload_n 0, 1) := by decide +kernel
theorem dL_law_27 : decode cL_law 27 = .ok (.iload_n 3, 1) := by decide +kernel
theorem dL_law_28 : decode cL_law 28 = .ok (.iaload, 1) := by decide +kernel
theorem dL_law_29 : decode cL_law 29 = .ok (.bipush 31, 2) := by decide +kernel
theorem dL_law_31 : decode cL_law 31 = .ok (.iand, 1) := by decide +kernel
theorem dL_law_32 : decode cL_law 32 = .ok (.tableswitch 829 0 28 #[132, 165, 188, 221, 244, 267, 300, 323, 346, 359, 392, 425, 458, 491, 514, 537, 560, 603, 626, 649, 682, 705, 728, 751, 764, 777, 790, 803, 816], 132) := by decide +kernel
theorem dL_law_164 : decode cL_law 164 = .ok (.aload_n 1, 1) := by decide +kernel
theorem dL_law_165 : decode cL_law 165 = .ok (.aload_n 0, 1) := by decide +kernel
theorem dL_law_166 : decode cL_law 166 = .ok (.iload_n 3, 1) := by decide +kernel
theorem dL_law_167 : decode cL_law 167 = .ok (.iconst 1, 1) := by decide +kernel
theorem dL_law_168 : decode cL_law 168 = .ok (.iadd, 1) := by decide +kernel
theorem dL_law_169 : decode cL_law 169 = .ok (.iaload, 1) := by decide +kernel
theorem dL_law_170 : decode cL_law 170 = .ok (.aload_n 0, 1) := by decide +kernel
theorem dL_law_171 : decode cL_law 171 = .ok (.iload_n 3, 1) := by decide +kernel
theorem dL_law_172 : decode cL_law 172 = .ok (.iconst 2, 1) := by decide +kernel
theorem dL_law_173 : decode cL_law 173 = .ok (.iadd, 1) := by decide +kernel
theorem dL_law_174 : decode cL_law 174 = .ok (.iaload, 1) := by decide +kernel
theorem dL_law_175 : decode cL_law 175 = .ok (.invokevirtual 13, 3) := by decide +kernel
theorem dL_law_178 : decode cL_law 178 = .ok (.aload_n 2, 1) := by decide +kernel
theorem dL_law_179 : decode cL_law 179 = .ok (.aload_n 0, 1) := by decide +kernel
theorem dL_law_180 : decode cL_law 180 = .ok (.iload_n 3, 1) := by decide +kernel
theorem dL_law_181 : decode cL_law 181 = .ok (.iconst 1, 1) := by decide +kernel
theorem dL_law_182 : decode cL_law 182 = .ok (.iadd, 1) := by decide +kernel
theorem dL_law_183 : decode cL_law 183 = .ok (.iaload, 1) := by decide +kernel
theorem dL_law_184 : decode cL_law 184 = .ok (.aload_n 0, 1) := by decide +kernel
theorem dL_law_185 : decode cL_law 185 = .ok (.iload_n 3, 1) := by decide +kernel
theorem dL_law_186 : decode cL_law 186 = .ok (.iconst 2, 1) := by decide +kernel
theorem dL_law_187 : decode cL_law 187 = .ok (.iadd, 1) := by decide +kernel
theorem dL_law_188 : decode cL_law 188 = .ok (.iaload, 1) := by decide +kernel
theorem dL_law_189 : decode cL_law 189 = .ok (.invokevirtual 17, 3) := by decide +kernel
theorem dL_law_192 : decode cL_law 192 = .ok (.if_icmp .eq 669, 3) := by decide +kernel
theorem dL_law_195 : decode cL_law 195 = .ok (.iconst 0, 1) := by decide +kernel
theorem dL_law_196 : decode cL_law 196 = .ok (.ireturn, 1) := by decide +kernel
theorem dL_law_197 : decode cL_law 197 = .ok (.aload_n 1, 1) := by decide +kernel
theorem dL_law_198 : decode cL_law 198 = .ok (.aload_n 0, 1) := by decide +kernel
theorem dL_law_199 : decode cL_law 199 = .ok (.iload_n 3, 1) := by decide +kernel
theorem dL_law_200 : decode cL_law 200 = .ok (.iconst 1, 1) := by decide +kernel
theorem dL_law_201 : decode cL_law 201 = .ok (.iadd, 1) := by decide +kernel
theorem dL_law_202 : decode cL_law 202 = .ok (.iaload, 1) := by decide +kernel
theorem dL_law_203 : decode cL_law 203 = .ok (.invokevirtual 18, 3) := by decide +kernel
theorem dL_law_206 : decode cL_law 206 = .ok (.aload_n 2, 1) := by decide +kernel
theorem dL_law_207 : decode cL_law 207 = .ok (.aload_n 0, 1) := by decide +kernel
theorem dL_law_208 : decode cL_law 208 = .ok (.iload_n 3, 1) := by decide +kernel
theorem dL_law_209 : decode cL_law 209 = .ok (.iconst 1, 1) := by decide +kernel
theorem dL_law_210 : decode cL_law 210 = .ok (.iadd, 1) := by decide +kernel
theorem dL_law_211 : decode cL_law 211 = .ok (.iaload, 1) := by decide +kernel
theorem dL_law_212 : decode cL_law 212 = .ok (.invokevirtual 22, 3) := by decide +kernel
theorem dL_law_215 : decode cL_law 215 = .ok (.if_icmp .eq 646, 3) := by decide +kernel
theorem dL_law_218 : decode cL_law 218 = .ok (.iconst 0, 1) := by decide +kernel
theorem dL_law_219 : decode cL_law 219 = .ok (.ireturn, 1) := by decide +kernel
theorem dL_law_220 : decode cL_law 220 = .ok (.aload_n 1, 1) := by decide +kernel
theorem dL_law_221 : decode cL_law 221 = .ok (.aload_n 0, 1) := by decide +kernel
theorem dL_law_222 : decode cL_law 222 = .ok (.iload_n 3, 1) := by decide +kernel
theorem dL_law_223 : decode cL_law 223 = .ok (.iconst 1, 1) := by decide +kernel
theorem dL_law_224 : decode cL_law 224 = .ok (.iadd, 1) := by decide +kernel
theorem dL_law_225 : decode cL_law 225 = .ok (.iaload, 1) := by decide +kernel
theorem dL_law_226 : decode cL_law 226 = .ok (.aload_n 0, 1) := by decide +kernel
theorem dL_law_227 : decode cL_law 227 = .ok (.iload_n 3, 1) := by decide +kernel
theorem dL_law_228 : decode cL_law 228 = .ok (.iconst 2, 1) := by decide +kernel
theorem dL_law_229 : decode cL_law 229 = .ok (.iadd, 1) := by decide +kernel
theorem dL_law_230 : decode cL_law 230 = .ok (.iaload, 1) := by decide +kernel
theorem dL_law_231 : decode cL_law 231 = .ok (.invokevirtual 23, 3) := by decide +kernel
theorem dL_law_234 : decode cL_law 234 = .ok (.aload_n 2, 1) := by decide +kernel
theorem dL_law_235 : decode cL_law 235 = .ok (.aload_n 0, 1) := by decide +kernel
theorem dL_law_236 : decode cL_law 236 = .ok (.iload_n 3, 1) := by decide +kernel
theorem dL_law_237 : decode cL_law 237 = .ok (.iconst 1, 1) := by decide +kernel
theorem dL_law_238 : decode cL_law 238 = .ok (.iadd, 1) := by decide +kernel
theorem dL_law_239 : decode cL_law 239 = .ok (.iaload, 1) := by decide +kernel
theorem dL_law_240 : decode cL_law 240 = .ok (.aload_n 0, 1) := by decide +kernel
theorem dL_law_241 : decode cL_law 241 = .ok (.iload_n 3, 1) := by decide +kernel
theorem dL_law_242 : decode cL_law 242 = .ok (.iconst 2, 1) := by decide +kernel
theorem dL_law_243 : decode cL_law 243 = .ok (.iadd, 1) := by decide +kernel
theorem dL_law_244 : decode cL_law 244 = .ok (.iaload, 1) := by decide +kernel
theorem dL_law_245 : decode cL_law 245 = .ok (.invokevirtual 26, 3) := by decide +kernel
theorem dL_law_248 : decode cL_law 248 = .ok (.if_icmp .eq 613, 3) := by decide +kernel
theorem dL_law_251 : decode cL_law 251 = .ok (.iconst 0, 1) := by decide +kernel
theorem dL_law_252 : decode cL_law 252 = .ok (.ireturn, 1) := by decide +kernel
theorem dL_law_253 : decode cL_law 253 = .ok (.aload_n 1, 1) := by decide +kernel
theorem dL_law_254 : decode cL_law 254 = .ok (.aload_n 0, 1) := by decide +kernel
theorem dL_law_255 : decode cL_law 255 = .ok (.iload_n 3, 1) := by decide +kernel
theorem dL_law_256 : decode cL_law 256 = .ok (.iconst 1, 1) := by decide +kernel
theorem dL_law_257 : decode cL_law 257 = .ok (.iadd, 1) := by decide +kernel
theorem dL_law_258 : decode cL_law 258 = .ok (.iaload, 1) := by decide +kernel
theorem dL_law_259 : decode cL_law 259 = .ok (.invokevirtual 27, 3) := by decide +kernel
theorem dL_law_262 : decode cL_law 262 = .ok (.aload_n 2, 1) := by decide +kernel
theorem dL_law_263 : decode cL_law 263 = .ok (.aload_n 0, 1) := by decide +kernel
theorem dL_law_264 : decode cL_law 264 = .ok (.iload_n 3, 1) := by decide +kernel
theorem dL_law_265 : decode cL_law 265 = .ok (.iconst 1, 1) := by decide +kernel
theorem dL_law_266 : decode cL_law 266 = .ok (.iadd, 1) := by decide +kernel
theorem dL_law_267 : decode cL_law 267 = .ok (.iaload, 1) := by decide +kernel
theorem dL_law_268 : decode cL_law 268 = .ok (.invokevirtual 30, 3) := by decide +kernel
theorem dL_law_271 : decode cL_law 271 = .ok (.if_icmp .eq 590, 3) := by decide +kernel
theorem dL_law_274 : decode cL_law 274 = .ok (.iconst 0, 1) := by decide +kernel
theorem dL_law_275 : decode cL_law 275 = .ok (.ireturn, 1) := by decide +kernel
theorem dL_law_276 : decode cL_law 276 = .ok (.aload_n 1, 1) := by decide +kernel
theorem dL_law_277 : decode cL_law 277 = .ok (.aload_n 0, 1) := by decide +kernel
theorem dL_law_278 : decode cL_law 278 = .ok (.iload_n 3, 1) := by decide +kernel
theorem dL_law_279 : decode cL_law 279 = .ok (.iconst 1, 1) := by decide +kernel
theorem dL_law_280 : decode cL_law 280 = .ok (.iadd, 1) := by decide +kernel
theorem dL_law_281 : decode cL_law 281 = .ok (.iaload, 1) := by decide +kernel
theorem dL_law_282 : decode cL_law 282 = .ok (.invokevirtual 31, 3) := by decide +kernel
theorem dL_law_285 : decode cL_law 285 = .ok (.aload_n 2, 1) := by decide +kernel
theorem dL_law_286 : decode cL_law 286 = .ok (.aload_n 0, 1) := by decide +kernel
theorem dL_law_287 : decode cL_law 287 = .ok (.iload_n 3, 1) := by decide +kernel
theorem dL_law_288 : decode cL_law 288 = .ok (.iconst 1, 1) := by decide +kernel
theorem dL_law_289 : decode cL_law 289 = .ok (.iadd, 1) := by decide +kernel
theorem dL_law_290 : decode cL_law 290 = .ok (.iaload, 1) := by decide +kernel
theorem dL_law_291 : decode cL_law 291 = .ok (.invokevirtual 34, 3) := by decide +kernel
theorem dL_law_294 : decode cL_law 294 = .ok (.if_icmp .eq 567, 3) := by decide +kernel
theorem dL_law_297 : decode cL_law 297 = .ok (.iconst 0, 1) := by decide +kernel
theorem dL_law_298 : decode cL_law 298 = .ok (.ireturn, 1) := by decide +kernel
theorem dL_law_299 : decode cL_law 299 = .ok (.aload_n 1, 1) := by decide +kernel
theorem dL_law_300 : decode cL_law 300 = .ok (.aload_n 0, 1) := by decide +kernel
theorem dL_law_301 : decode cL_law 301 = .ok (.iload_n 3, 1) := by decide +kernel
theorem dL_law_302 : decode cL_law 302 = .ok (.iconst 1, 1) := by decide +kernel
theorem dL_law_303 : decode cL_law 303 = .ok (.iadd, 1) := by decide +kernel
theorem dL_law_304 : decode cL_law 304 = .ok (.iaload, 1) := by decide +kernel
theorem dL_law_305 : decode cL_law 305 = .ok (.aload_n 0, 1) := by decide +kernel
theorem dL_law_306 : decode cL_law 306 = .ok (.iload_n 3, 1) := by decide +kernel
theorem dL_law_307 : decode cL_law 307 = .ok (.iconst 2, 1) := by decide +kernel
theorem dL_law_308 : decode cL_law 308 = .ok (.iadd, 1) := by decide +kernel
theorem dL_law_309 : decode cL_law 309 = .ok (.iaload, 1) := by decide +kernel
theorem dL_law_310 : decode cL_law 310 = .ok (.invokevirtual 35, 3) := by decide +kernel
theorem dL_law_313 : decode cL_law 313 = .ok (.aload_n 2, 1) := by decide +kernel
theorem dL_law_314 : decode cL_law 314 = .ok (.aload_n 0, 1) := by decide +kernel
theorem dL_law_315 : decode cL_law 315 = .ok (.iload_n 3, 1) := by decide +kernel
theorem dL_law_316 : decode cL_law 316 = .ok (.iconst 1, 1) := by decide +kernel
theorem dL_law_317 : decode cL_law 317 = .ok (.iadd, 1) := by decide +kernel
theorem dL_law_318 : decode cL_law 318 = .ok (.iaload, 1) := by decide +kernel
theorem dL_law_319 : decode cL_law 319 = .ok (.aload_n 0, 1) := by decide +kernel
theorem dL_law_320 : decode cL_law 320 = .ok (.iload_n 3, 1) := by decide +kernel
theorem dL_law_321 : decode cL_law 321 = .ok (.iconst 2, 1) := by decide +kernel
theorem dL_law_322 : decode cL_law 322 = .ok (.iadd, 1) := by decide +kernel
theorem dL_law_323 : decode cL_law 323 = .ok (.iaload, 1) := by decide +kernel
theorem dL_law_324 : decode cL_law 324 = .ok (.invokevirtual 38, 3) := by decide +kernel
theorem dL_law_327 : decode cL_law 327 = .ok (.if_icmp .eq 534, 3) := by decide +kernel
theorem dL_law_330 : decode cL_law 330 = .ok (.iconst 0, 1) := by decide +kernel
theorem dL_law_331 : decode cL_law 331 = .ok (.ireturn, 1) := by decide +kernel
theorem dL_law_332 : decode cL_law 332 = .ok (.aload_n 1, 1) := by decide +kernel
theorem dL_law_333 : decode cL_law 333 = .ok (.aload_n 0, 1) := by decide +kernel
theorem dL_law_334 : decode cL_law 334 = .ok (.iload_n 3, 1) := by decide +kernel
theorem dL_law_335 : decode cL_law 335 = .ok (.iconst 1, 1) := by decide +kernel
theorem dL_law_336 : decode cL_law 336 = .ok (.iadd, 1) := by decide +kernel
theorem dL_law_337 : decode cL_law 337 = .ok (.iaload, 1) := by decide +kernel
theorem dL_law_338 : decode cL_law 338 = .ok (.invokevirtual 39, 3) := by decide +kernel
theorem dL_law_341 : decode cL_law 341 = .ok (.aload_n 2, 1) := by decide +kernel
theorem dL_law_342 : decode cL_law 342 = .ok (.aload_n 0, 1) := by decide +kernel
theorem dL_law_343 : decode cL_law 343 = .ok (.iload_n 3, 1) := by decide +kernel
theorem dL_law_344 : decode cL_law 344 = .ok (.iconst 1, 1) := by decide +kernel
theorem dL_law_345 : decode cL_law 345 = .ok (.iadd, 1) := by decide +kernel
theorem dL_law_346 : decode cL_law 346 = .ok (.iaload, 1) := by decide +kernel
theorem dL_law_347 : decode cL_law 347 = .ok (.invokevirtual 42, 3) := by decide +kernel
theorem dL_law_350 : decode cL_law 350 = .ok (.if_icmp .eq 511, 3) := by decide +kernel
theorem dL_law_353 : decode cL_law 353 = .ok (.iconst 0, 1) := by decide +kernel
theorem dL_law_354 : decode cL_law 354 = .ok (.ireturn, 1) := by decide +kernel
theorem dL_law_355 : decode cL_law 355 = .ok (.aload_n 1, 1) := by decide +kernel
theorem dL_law_356 : decode cL_law 356 = .ok (.aload_n 0, 1) := by decide +kernel
theorem dL_law_357 : decode cL_law 357 = .ok (.iload_n 3, 1) := by decide +kernel
theorem dL_law_358 : decode cL_law 358 = .ok (.iconst 1, 1) := by decide +kernel
theorem dL_law_359 : decode cL_law 359 = .ok (.iadd, 1) := by decide +kernel
theorem dL_law_360 : decode cL_law 360 = .ok (.iaload, 1) := by decide +kernel
theorem dL_law_361 : decode cL_law 361 = .ok (.invokevirtual 43, 3) := by decide +kernel
theorem dL_law_364 : decode cL_law 364 = .ok (.aload_n 2, 1) := by decide +kernel
theorem dL_law_365 : decode cL_law 365 = .ok (.aload_n 0, 1) := by decide +kernel
theorem dL_law_366 : decode cL_law 366 = .ok (.iload_n 3, 1) := by decide +kernel
theorem dL_law_367 : decode cL_law 367 = .ok (.iconst 1, 1) := by decide +kernel
theorem dL_law_368 : decode cL_law 368 = .ok (.iadd, 1) := by decide +kernel
theorem dL_law_369 : decode cL_law 369 = .ok (.iaload, 1) := by decide +kernel
theorem dL_law_370 : decode cL_law 370 = .ok (.invokevirtual 46, 3) := by decide +kernel
theorem dL_law_373 : decode cL_law 373 = .ok (.if_icmp .eq 488, 3) := by decide +kernel
theorem dL_law_376 : decode cL_law 376 = .ok (.iconst 0, 1) := by decide +kernel
theorem dL_law_377 : decode cL_law 377 = .ok (.ireturn, 1) := by decide +kernel
theorem dL_law_378 : decode cL_law 378 = .ok (.aload_n 1, 1) := by decide +kernel
theorem dL_law_379 : decode cL_law 379 = .ok (.invokevirtual 47, 3) := by decide +kernel
theorem dL_law_382 : decode cL_law 382 = .ok (.aload_n 2, 1) := by decide +kernel
theorem dL_law_383 : decode cL_law 383 = .ok (.invokevirtual 51, 3) := by decide +kernel
theorem dL_law_386 : decode cL_law 386 = .ok (.if_icmp .eq 475, 3) := by decide +kernel
theorem dL_law_389 : decode cL_law 389 = .ok (.iconst 0, 1) := by decide +kernel
theorem dL_law_390 : decode cL_law 390 = .ok (.ireturn, 1) := by decide +kernel
theorem dL_law_391 : decode cL_law 391 = .ok (.aload_n 1, 1) := by decide +kernel
theorem dL_law_392 : decode cL_law 392 = .ok (.aload_n 0, 1) := by decide +kernel
theorem dL_law_393 : decode cL_law 393 = .ok (.iload_n 3, 1) := by decide +kernel
theorem dL_law_394 : decode cL_law 394 = .ok (.iconst 1, 1) := by decide +kernel
theorem dL_law_395 : decode cL_law 395 = .ok (.iadd, 1) := by decide +kernel
theorem dL_law_396 : decode cL_law 396 = .ok (.iaload, 1) := by decide +kernel
theorem dL_law_397 : decode cL_law 397 = .ok (.aload_n 0, 1) := by decide +kernel
theorem dL_law_398 : decode cL_law 398 = .ok (.iload_n 3, 1) := by decide +kernel
theorem dL_law_399 : decode cL_law 399 = .ok (.iconst 2, 1) := by decide +kernel
theorem dL_law_400 : decode cL_law 400 = .ok (.iadd, 1) := by decide +kernel
theorem dL_law_401 : decode cL_law 401 = .ok (.iaload, 1) := by decide +kernel
theorem dL_law_402 : decode cL_law 402 = .ok (.invokevirtual 52, 3) := by decide +kernel
theorem dL_law_405 : decode cL_law 405 = .ok (.aload_n 2, 1) := by decide +kernel
theorem dL_law_406 : decode cL_law 406 = .ok (.aload_n 0, 1) := by decide +kernel
theorem dL_law_407 : decode cL_law 407 = .ok (.iload_n 3, 1) := by decide +kernel
theorem dL_law_408 : decode cL_law 408 = .ok (.iconst 1, 1) := by decide +kernel
theorem dL_law_409 : decode cL_law 409 = .ok (.iadd, 1) := by decide +kernel
theorem dL_law_410 : decode cL_law 410 = .ok (.iaload, 1) := by decide +kernel
theorem dL_law_411 : decode cL_law 411 = .ok (.aload_n 0, 1) := by decide +kernel
theorem dL_law_412 : decode cL_law 412 = .ok (.iload_n 3, 1) := by decide +kernel
theorem dL_law_413 : decode cL_law 413 = .ok (.iconst 2, 1) := by decide +kernel
theorem dL_law_414 : decode cL_law 414 = .ok (.iadd, 1) := by decide +kernel
theorem dL_law_415 : decode cL_law 415 = .ok (.iaload, 1) := by decide +kernel
theorem dL_law_416 : decode cL_law 416 = .ok (.invokevirtual 55, 3) := by decide +kernel
theorem dL_law_419 : decode cL_law 419 = .ok (.if_icmp .eq 442, 3) := by decide +kernel
theorem dL_law_422 : decode cL_law 422 = .ok (.iconst 0, 1) := by decide +kernel
theorem dL_law_423 : decode cL_law 423 = .ok (.ireturn, 1) := by decide +kernel
theorem dL_law_424 : decode cL_law 424 = .ok (.aload_n 1, 1) := by decide +kernel
theorem dL_law_425 : decode cL_law 425 = .ok (.aload_n 0, 1) := by decide +kernel
theorem dL_law_426 : decode cL_law 426 = .ok (.iload_n 3, 1) := by decide +kernel
theorem dL_law_427 : decode cL_law 427 = .ok (.iconst 1, 1) := by decide +kernel
theorem dL_law_428 : decode cL_law 428 = .ok (.iadd, 1) := by decide +kernel
theorem dL_law_429 : decode cL_law 429 = .ok (.iaload, 1) := by decide +kernel
theorem dL_law_430 : decode cL_law 430 = .ok (.aload_n 0, 1) := by decide +kernel
theorem dL_law_431 : decode cL_law 431 = .ok (.iload_n 3, 1) := by decide +kernel
theorem dL_law_432 : decode cL_law 432 = .ok (.iconst 2, 1) := by decide +kernel
theorem dL_law_433 : decode cL_law 433 = .ok (.iadd, 1) := by decide +kernel
theorem dL_law_434 : decode cL_law 434 = .ok (.iaload, 1) := by decide +kernel
theorem dL_law_435 : decode cL_law 435 = .ok (.invokevirtual 56, 3) := by decide +kernel
theorem dL_law_438 : decode cL_law 438 = .ok (.aload_n 2, 1) := by decide +kernel
theorem dL_law_439 : decode cL_law 439 = .ok (.aload_n 0, 1) := by decide +kernel
theorem dL_law_440 : decode cL_law 440 = .ok (.iload_n 3, 1) := by decide +kernel
theorem dL_law_441 : decode cL_law 441 = .ok (.iconst 1, 1) := by decide +kernel
theorem dL_law_442 : decode cL_law 442 = .ok (.iadd, 1) := by decide +kernel
theorem dL_law_443 : decode cL_law 443 = .ok (.iaload, 1) := by decide +kernel
theorem dL_law_444 : decode cL_law 444 = .ok (.aload_n 0, 1) := by decide +kernel
theorem dL_law_445 : decode cL_law 445 = .ok (.iload_n 3, 1) := by decide +kernel
theorem dL_law_446 : decode cL_law 446 = .ok (.iconst 2, 1) := by decide +kernel
theorem dL_law_447 : decode cL_law 447 = .ok (.iadd, 1) := by decide +kernel
theorem dL_law_448 : decode cL_law 448 = .ok (.iaload, 1) := by decide +kernel
theorem dL_law_449 : decode cL_law 449 = .ok (.invokevirtual 59, 3) := by decide +kernel
theorem dL_law_452 : decode cL_law 452 = .ok (.if_icmp .eq 409, 3) := by decide +kernel
theorem dL_law_455 : decode cL_law 455 = .ok (.iconst 0, 1) := by decide +kernel
theorem dL_law_456 : decode cL_law 456 = .ok (.ireturn, 1) := by decide +kernel
theorem dL_law_457 : decode cL_law 457 = .ok (.aload_n 1, 1) := by decide +kernel
theorem dL_law_458 : decode cL_law 458 = .ok (.aload_n 0, 1) := by decide +kernel
theorem dL_law_459 : decode cL_law 459 = .ok (.iload_n 3, 1) := by decide +kernel
theorem dL_law_460 : decode cL_law 460 = .ok (.iconst 1, 1) := by decide +kernel
theorem dL_law_461 : decode cL_law 461 = .ok (.iadd, 1) := by decide +kernel
theorem dL_law_462 : decode cL_law 462 = .ok (.iaload, 1) := by decide +kernel
theorem dL_law_463 : decode cL_law 463 = .ok (.aload_n 0, 1) := by decide +kernel
theorem dL_law_464 : decode cL_law 464 = .ok (.iload_n 3, 1) := by decide +kernel
theorem dL_law_465 : decode cL_law 465 = .ok (.iconst 2, 1) := by decide +kernel
theorem dL_law_466 : decode cL_law 466 = .ok (.iadd, 1) := by decide +kernel
theorem dL_law_467 : decode cL_law 467 = .ok (.iaload, 1) := by decide +kernel
theorem dL_law_468 : decode cL_law 468 = .ok (.invokevirtual 60, 3) := by decide +kernel
theorem dL_law_471 : decode cL_law 471 = .ok (.aload_n 2, 1) := by decide +kernel
theorem dL_law_472 : decode cL_law 472 = .ok (.aload_n 0, 1) := by decide +kernel
theorem dL_law_473 : decode cL_law 473 = .ok (.iload_n 3, 1) := by decide +kernel
theorem dL_law_474 : decode cL_law 474 = .ok (.iconst 1, 1) := by decide +kernel
theorem dL_law_475 : decode cL_law 475 = .ok (.iadd, 1) := by decide +kernel
theorem dL_law_476 : decode cL_law 476 = .ok (.iaload, 1) := by decide +kernel
theorem dL_law_477 : decode cL_law 477 = .ok (.aload_n 0, 1) := by decide +kernel
theorem dL_law_478 : decode cL_law 478 = .ok (.iload_n 3, 1) := by decide +kernel
theorem dL_law_479 : decode cL_law 479 = .ok (.iconst 2, 1) := by decide +kernel
theorem dL_law_480 : decode cL_law 480 = .ok (.iadd, 1) := by decide +kernel
theorem dL_law_481 : decode cL_law 481 = .ok (.iaload, 1) := by decide +kernel
theorem dL_law_482 : decode cL_law 482 = .ok (.invokevirtual 63, 3) := by decide +kernel
theorem dL_law_485 : decode cL_law 485 = .ok (.if_icmp .eq 376, 3) := by decide +kernel
theorem dL_law_488 : decode cL_law 488 = .ok (.iconst 0, 1) := by decide +kernel
theorem dL_law_489 : decode cL_law 489 = .ok (.ireturn, 1) := by decide +kernel
theorem dL_law_490 : decode cL_law 490 = .ok (.aload_n 1, 1) := by decide +kernel
theorem dL_law_491 : decode cL_law 491 = .ok (.aload_n 0, 1) := by decide +kernel
theorem dL_law_492 : decode cL_law 492 = .ok (.iload_n 3, 1) := by decide +kernel
theorem dL_law_493 : decode cL_law 493 = .ok (.iconst 1, 1) := by decide +kernel
theorem dL_law_494 : decode cL_law 494 = .ok (.iadd, 1) := by decide +kernel
theorem dL_law_495 : decode cL_law 495 = .ok (.iaload, 1) := by decide +kernel
theorem dL_law_496 : decode cL_law 496 = .ok (.aload_n 0, 1) := by decide +kernel
theorem dL_law_497 : decode cL_law 497 = .ok (.iload_n 3, 1) := by decide +kernel
theorem dL_law_498 : decode cL_law 498 = .ok (.iconst 2, 1) := by decide +kernel
theorem dL_law_499 : decode cL_law 499 = .ok (.iadd, 1) := by decide +kernel
theorem dL_law_500 : decode cL_law 500 = .ok (.iaload, 1) := by decide +kernel
theorem dL_law_501 : decode cL_law 501 = .ok (.invokevirtual 64, 3) := by decide +kernel
theorem dL_law_504 : decode cL_law 504 = .ok (.aload_n 2, 1) := by decide +kernel
theorem dL_law_505 : decode cL_law 505 = .ok (.aload_n 0, 1) := by decide +kernel
theorem dL_law_506 : decode cL_law 506 = .ok (.iload_n 3, 1) := by decide +kernel
theorem dL_law_507 : decode cL_law 507 = .ok (.iconst 1, 1) := by decide +kernel
theorem dL_law_508 : decode cL_law 508 = .ok (.iadd, 1) := by decide +kernel
theorem dL_law_509 : decode cL_law 509 = .ok (.iaload, 1) := by decide +kernel
theorem dL_law_510 : decode cL_law 510 = .ok (.aload_n 0, 1) := by decide +kernel
theorem dL_law_511 : decode cL_law 511 = .ok (.iload_n 3, 1) := by decide +kernel
theorem dL_law_512 : decode cL_law 512 = .ok (.iconst 2, 1) := by decide +kernel
theorem dL_law_513 : decode cL_law 513 = .ok (.iadd, 1) := by decide +kernel
theorem dL_law_514 : decode cL_law 514 = .ok (.iaload, 1) := by decide +kernel
theorem dL_law_515 : decode cL_law 515 = .ok (.invokevirtual 67, 3) := by decide +kernel
theorem dL_law_518 : decode cL_law 518 = .ok (.if_icmp .eq 343, 3) := by decide +kernel
theorem dL_law_521 : decode cL_law 521 = .ok (.iconst 0, 1) := by decide +kernel
theorem dL_law_522 : decode cL_law 522 = .ok (.ireturn, 1) := by decide +kernel
theorem dL_law_523 : decode cL_law 523 = .ok (.aload_n 1, 1) := by decide +kernel
theorem dL_law_524 : decode cL_law 524 = .ok (.aload_n 0, 1) := by decide +kernel
theorem dL_law_525 : decode cL_law 525 = .ok (.iload_n 3, 1) := by decide +kernel
theorem dL_law_526 : decode cL_law 526 = .ok (.iconst 1, 1) := by decide +kernel
theorem dL_law_527 : decode cL_law 527 = .ok (.iadd, 1) := by decide +kernel
theorem dL_law_528 : decode cL_law 528 = .ok (.iaload, 1) := by decide +kernel
theorem dL_law_529 : decode cL_law 529 = .ok (.invokevirtual 68, 3) := by decide +kernel
theorem dL_law_532 : decode cL_law 532 = .ok (.aload_n 2, 1) := by decide +kernel
theorem dL_law_533 : decode cL_law 533 = .ok (.aload_n 0, 1) := by decide +kernel
theorem dL_law_534 : decode cL_law 534 = .ok (.iload_n 3, 1) := by decide +kernel
theorem dL_law_535 : decode cL_law 535 = .ok (.iconst 1, 1) := by decide +kernel
theorem dL_law_536 : decode cL_law 536 = .ok (.iadd, 1) := by decide +kernel
theorem dL_law_537 : decode cL_law 537 = .ok (.iaload, 1) := by decide +kernel
theorem dL_law_538 : decode cL_law 538 = .ok (.invokevirtual 71, 3) := by decide +kernel
theorem dL_law_541 : decode cL_law 541 = .ok (.if_icmp .eq 320, 3) := by decide +kernel
theorem dL_law_544 : decode cL_law 544 = .ok (.iconst 0, 1) := by decide +kernel
theorem dL_law_545 : decode cL_law 545 = .ok (.ireturn, 1) := by decide +kernel
theorem dL_law_546 : decode cL_law 546 = .ok (.aload_n 1, 1) := by decide +kernel
theorem dL_law_547 : decode cL_law 547 = .ok (.aload_n 0, 1) := by decide +kernel
theorem dL_law_548 : decode cL_law 548 = .ok (.iload_n 3, 1) := by decide +kernel
theorem dL_law_549 : decode cL_law 549 = .ok (.iconst 1, 1) := by decide +kernel
theorem dL_law_550 : decode cL_law 550 = .ok (.iadd, 1) := by decide +kernel
theorem dL_law_551 : decode cL_law 551 = .ok (.iaload, 1) := by decide +kernel
theorem dL_law_552 : decode cL_law 552 = .ok (.invokevirtual 72, 3) := by decide +kernel
theorem dL_law_555 : decode cL_law 555 = .ok (.aload_n 2, 1) := by decide +kernel
theorem dL_law_556 : decode cL_law 556 = .ok (.aload_n 0, 1) := by decide +kernel
theorem dL_law_557 : decode cL_law 557 = .ok (.iload_n 3, 1) := by decide +kernel
theorem dL_law_558 : decode cL_law 558 = .ok (.iconst 1, 1) := by decide +kernel
theorem dL_law_559 : decode cL_law 559 = .ok (.iadd, 1) := by decide +kernel
theorem dL_law_560 : decode cL_law 560 = .ok (.iaload, 1) := by decide +kernel
theorem dL_law_561 : decode cL_law 561 = .ok (.invokevirtual 75, 3) := by decide +kernel
theorem dL_law_564 : decode cL_law 564 = .ok (.if_icmp .eq 297, 3) := by decide +kernel
theorem dL_law_567 : decode cL_law 567 = .ok (.iconst 0, 1) := by decide +kernel
theorem dL_law_568 : decode cL_law 568 = .ok (.ireturn, 1) := by decide +kernel
theorem dL_law_569 : decode cL_law 569 = .ok (.aload_n 1, 1) := by decide +kernel
theorem dL_law_570 : decode cL_law 570 = .ok (.aload_n 0, 1) := by decide +kernel
theorem dL_law_571 : decode cL_law 571 = .ok (.iload_n 3, 1) := by decide +kernel
theorem dL_law_572 : decode cL_law 572 = .ok (.iconst 1, 1) := by decide +kernel
theorem dL_law_573 : decode cL_law 573 = .ok (.iadd, 1) := by decide +kernel
theorem dL_law_574 : decode cL_law 574 = .ok (.iaload, 1) := by decide +kernel
theorem dL_law_575 : decode cL_law 575 = .ok (.invokevirtual 76, 3) := by decide +kernel
theorem dL_law_578 : decode cL_law 578 = .ok (.aload_n 2, 1) := by decide +kernel
theorem dL_law_579 : decode cL_law 579 = .ok (.aload_n 0, 1) := by decide +kernel
theorem dL_law_580 : decode cL_law 580 = .ok (.iload_n 3, 1) := by decide +kernel
theorem dL_law_581 : decode cL_law 581 = .ok (.iconst 1, 1) := by decide +kernel
theorem dL_law_582 : decode cL_law 582 = .ok (.iadd, 1) := by decide +kernel
theorem dL_law_583 : decode cL_law 583 = .ok (.iaload, 1) := by decide +kernel
theorem dL_law_584 : decode cL_law 584 = .ok (.invokevirtual 79, 3) := by decide +kernel
theorem dL_law_587 : decode cL_law 587 = .ok (.if_icmp .eq 274, 3) := by decide +kernel
theorem dL_law_590 : decode cL_law 590 = .ok (.iconst 0, 1) := by decide +kernel
theorem dL_law_591 : decode cL_law 591 = .ok (.ireturn, 1) := by decide +kernel
theorem dL_law_592 : decode cL_law 592 = .ok (.aload_n 1, 1) := by decide +kernel
theorem dL_law_593 : decode cL_law 593 = .ok (.aload_n 0, 1) := by decide +kernel
theorem dL_law_594 : decode cL_law 594 = .ok (.iload_n 3, 1) := by decide +kernel
theorem dL_law_595 : decode cL_law 595 = .ok (.iconst 1, 1) := by decide +kernel
theorem dL_law_596 : decode cL_law 596 = .ok (.iadd, 1) := by decide +kernel
theorem dL_law_597 : decode cL_law 597 = .ok (.iaload, 1) := by decide +kernel
theorem dL_law_598 : decode cL_law 598 = .ok (.aload_n 0, 1) := by decide +kernel
theorem dL_law_599 : decode cL_law 599 = .ok (.iload_n 3, 1) := by decide +kernel
theorem dL_law_600 : decode cL_law 600 = .ok (.iconst 2, 1) := by decide +kernel
theorem dL_law_601 : decode cL_law 601 = .ok (.iadd, 1) := by decide +kernel
theorem dL_law_602 : decode cL_law 602 = .ok (.iaload, 1) := by decide +kernel
theorem dL_law_603 : decode cL_law 603 = .ok (.aload_n 0, 1) := by decide +kernel
theorem dL_law_604 : decode cL_law 604 = .ok (.iload_n 3, 1) := by decide +kernel
theorem dL_law_605 : decode cL_law 605 = .ok (.iconst 3, 1) := by decide +kernel
theorem dL_law_606 : decode cL_law 606 = .ok (.iadd, 1) := by decide +kernel
theorem dL_law_607 : decode cL_law 607 = .ok (.iaload, 1) := by decide +kernel
theorem dL_law_608 : decode cL_law 608 = .ok (.invokevirtual 80, 3) := by decide +kernel
theorem dL_law_611 : decode cL_law 611 = .ok (.aload_n 2, 1) := by decide +kernel
theorem dL_law_612 : decode cL_law 612 = .ok (.aload_n 0, 1) := by decide +kernel
theorem dL_law_613 : decode cL_law 613 = .ok (.iload_n 3, 1) := by decide +kernel
theorem dL_law_614 : decode cL_law 614 = .ok (.iconst 1, 1) := by decide +kernel
theorem dL_law_615 : decode cL_law 615 = .ok (.iadd, 1) := by decide +kernel
theorem dL_law_616 : decode cL_law 616 = .ok (.iaload, 1) := by decide +kernel
theorem dL_law_617 : decode cL_law 617 = .ok (.aload_n 0, 1) := by decide +kernel
theorem dL_law_618 : decode cL_law 618 = .ok (.iload_n 3, 1) := by decide +kernel
theorem dL_law_619 : decode cL_law 619 = .ok (.iconst 2, 1) := by decide +kernel
theorem dL_law_620 : decode cL_law 620 = .ok (.iadd, 1) := by decide +kernel
theorem dL_law_621 : decode cL_law 621 = .ok (.iaload, 1) := by decide +kernel
theorem dL_law_622 : decode cL_law 622 = .ok (.aload_n 0, 1) := by decide +kernel
theorem dL_law_623 : decode cL_law 623 = .ok (.iload_n 3, 1) := by decide +kernel
theorem dL_law_624 : decode cL_law 624 = .ok (.iconst 3, 1) := by decide +kernel
theorem dL_law_625 : decode cL_law 625 = .ok (.iadd, 1) := by decide +kernel
theorem dL_law_626 : decode cL_law 626 = .ok (.iaload, 1) := by decide +kernel
theorem dL_law_627 : decode cL_law 627 = .ok (.invokevirtual 84, 3) := by decide +kernel
theorem dL_law_630 : decode cL_law 630 = .ok (.if_icmp .eq 231, 3) := by decide +kernel
theorem dL_law_633 : decode cL_law 633 = .ok (.iconst 0, 1) := by decide +kernel
theorem dL_law_634 : decode cL_law 634 = .ok (.ireturn, 1) := by decide +kernel
theorem dL_law_635 : decode cL_law 635 = .ok (.aload_n 1, 1) := by decide +kernel
theorem dL_law_636 : decode cL_law 636 = .ok (.aload_n 0, 1) := by decide +kernel
theorem dL_law_637 : decode cL_law 637 = .ok (.iload_n 3, 1) := by decide +kernel
theorem dL_law_638 : decode cL_law 638 = .ok (.iconst 1, 1) := by decide +kernel
theorem dL_law_639 : decode cL_law 639 = .ok (.iadd, 1) := by decide +kernel
theorem dL_law_640 : decode cL_law 640 = .ok (.iaload, 1) := by decide +kernel
theorem dL_law_641 : decode cL_law 641 = .ok (.invokevirtual 85, 3) := by decide +kernel
theorem dL_law_644 : decode cL_law 644 = .ok (.aload_n 2, 1) := by decide +kernel
theorem dL_law_645 : decode cL_law 645 = .ok (.aload_n 0, 1) := by decide +kernel
theorem dL_law_646 : decode cL_law 646 = .ok (.iload_n 3, 1) := by decide +kernel
theorem dL_law_647 : decode cL_law 647 = .ok (.iconst 1, 1) := by decide +kernel
theorem dL_law_648 : decode cL_law 648 = .ok (.iadd, 1) := by decide +kernel
theorem dL_law_649 : decode cL_law 649 = .ok (.iaload, 1) := by decide +kernel
theorem dL_law_650 : decode cL_law 650 = .ok (.invokevirtual 88, 3) := by decide +kernel
theorem dL_law_653 : decode cL_law 653 = .ok (.if_icmp .eq 208, 3) := by decide +kernel
theorem dL_law_656 : decode cL_law 656 = .ok (.iconst 0, 1) := by decide +kernel
theorem dL_law_657 : decode cL_law 657 = .ok (.ireturn, 1) := by decide +kernel
theorem dL_law_658 : decode cL_law 658 = .ok (.aload_n 1, 1) := by decide +kernel
theorem dL_law_659 : decode cL_law 659 = .ok (.aload_n 0, 1) := by decide +kernel
theorem dL_law_660 : decode cL_law 660 = .ok (.iload_n 3, 1) := by decide +kernel
theorem dL_law_661 : decode cL_law 661 = .ok (.iconst 1, 1) := by decide +kernel
theorem dL_law_662 : decode cL_law 662 = .ok (.iadd, 1) := by decide +kernel
theorem dL_law_663 : decode cL_law 663 = .ok (.iaload, 1) := by decide +kernel
theorem dL_law_664 : decode cL_law 664 = .ok (.invokevirtual 89, 3) := by decide +kernel
theorem dL_law_667 : decode cL_law 667 = .ok (.aload_n 2, 1) := by decide +kernel
theorem dL_law_668 : decode cL_law 668 = .ok (.aload_n 0, 1) := by decide +kernel
theorem dL_law_669 : decode cL_law 669 = .ok (.iload_n 3, 1) := by decide +kernel
theorem dL_law_670 : decode cL_law 670 = .ok (.iconst 1, 1) := by decide +kernel
theorem dL_law_671 : decode cL_law 671 = .ok (.iadd, 1) := by decide +kernel
theorem dL_law_672 : decode cL_law 672 = .ok (.iaload, 1) := by decide +kernel
theorem dL_law_673 : decode cL_law 673 = .ok (.invokevirtual 92, 3) := by decide +kernel
theorem dL_law_676 : decode cL_law 676 = .ok (.if_icmp .eq 185, 3) := by decide +kernel
theorem dL_law_679 : decode cL_law 679 = .ok (.iconst 0, 1) := by decide +kernel
theorem dL_law_680 : decode cL_law 680 = .ok (.ireturn, 1) := by decide +kernel
theorem dL_law_681 : decode cL_law 681 = .ok (.aload_n 1, 1) := by decide +kernel
theorem dL_law_682 : decode cL_law 682 = .ok (.aload_n 0, 1) := by decide +kernel
theorem dL_law_683 : decode cL_law 683 = .ok (.iload_n 3, 1) := by decide +kernel
theorem dL_law_684 : decode cL_law 684 = .ok (.iconst 1, 1) := by decide +kernel
theorem dL_law_685 : decode cL_law 685 = .ok (.iadd, 1) := by decide +kernel
theorem dL_law_686 : decode cL_law 686 = .ok (.iaload, 1) := by decide +kernel
theorem dL_law_687 : decode cL_law 687 = .ok (.aload_n 0, 1) := by decide +kernel
theorem dL_law_688 : decode cL_law 688 = .ok (.iload_n 3, 1) := by decide +kernel
theorem dL_law_689 : decode cL_law 689 = .ok (.iconst 2, 1) := by decide +kernel
theorem dL_law_690 : decode cL_law 690 = .ok (.iadd, 1) := by decide +kernel
theorem dL_law_691 : decode cL_law 691 = .ok (.iaload, 1) := by decide +kernel
theorem dL_law_692 : decode cL_law 692 = .ok (.invokevirtual 93, 3) := by decide +kernel
theorem dL_law_695 : decode cL_law 695 = .ok (.aload_n 2, 1) := by decide +kernel
theorem dL_law_696 : decode cL_law 696 = .ok (.aload_n 0, 1) := by decide +kernel
theorem dL_law_697 : decode cL_law 697 = .ok (.iload_n 3, 1) := by decide +kernel
theorem dL_law_698 : decode cL_law 698 = .ok (.iconst 1, 1) := by decide +kernel
theorem dL_law_699 : decode cL_law 699 = .ok (.iadd, 1) := by decide +kernel
theorem dL_law_700 : decode cL_law 700 = .ok (.iaload, 1) := by decide +kernel
theorem dL_law_701 : decode cL_law 701 = .ok (.aload_n 0, 1) := by decide +kernel
theorem dL_law_702 : decode cL_law 702 = .ok (.iload_n 3, 1) := by decide +kernel
theorem dL_law_703 : decode cL_law 703 = .ok (.iconst 2, 1) := by decide +kernel
theorem dL_law_704 : decode cL_law 704 = .ok (.iadd, 1) := by decide +kernel
theorem dL_law_705 : decode cL_law 705 = .ok (.iaload, 1) := by decide +kernel
theorem dL_law_706 : decode cL_law 706 = .ok (.invokevirtual 96, 3) := by decide +kernel
theorem dL_law_709 : decode cL_law 709 = .ok (.if_icmp .eq 152, 3) := by decide +kernel
theorem dL_law_712 : decode cL_law 712 = .ok (.iconst 0, 1) := by decide +kernel
theorem dL_law_713 : decode cL_law 713 = .ok (.ireturn, 1) := by decide +kernel
theorem dL_law_714 : decode cL_law 714 = .ok (.aload_n 1, 1) := by decide +kernel
theorem dL_law_715 : decode cL_law 715 = .ok (.aload_n 0, 1) := by decide +kernel
theorem dL_law_716 : decode cL_law 716 = .ok (.iload_n 3, 1) := by decide +kernel
theorem dL_law_717 : decode cL_law 717 = .ok (.iconst 1, 1) := by decide +kernel
theorem dL_law_718 : decode cL_law 718 = .ok (.iadd, 1) := by decide +kernel
theorem dL_law_719 : decode cL_law 719 = .ok (.iaload, 1) := by decide +kernel
theorem dL_law_720 : decode cL_law 720 = .ok (.invokevirtual 97, 3) := by decide +kernel
theorem dL_law_723 : decode cL_law 723 = .ok (.aload_n 2, 1) := by decide +kernel
theorem dL_law_724 : decode cL_law 724 = .ok (.aload_n 0, 1) := by decide +kernel
theorem dL_law_725 : decode cL_law 725 = .ok (.iload_n 3, 1) := by decide +kernel
theorem dL_law_726 : decode cL_law 726 = .ok (.iconst 1, 1) := by decide +kernel
theorem dL_law_727 : decode cL_law 727 = .ok (.iadd, 1) := by decide +kernel
theorem dL_law_728 : decode cL_law 728 = .ok (.iaload, 1) := by decide +kernel
theorem dL_law_729 : decode cL_law 729 = .ok (.invokevirtual 100, 3) := by decide +kernel
theorem dL_law_732 : decode cL_law 732 = .ok (.if_icmp .eq 129, 3) := by decide +kernel
theorem dL_law_735 : decode cL_law 735 = .ok (.iconst 0, 1) := by decide +kernel
theorem dL_law_736 : decode cL_law 736 = .ok (.ireturn, 1) := by decide +kernel
theorem dL_law_737 : decode cL_law 737 = .ok (.aload_n 1, 1) := by decide +kernel
theorem dL_law_738 : decode cL_law 738 = .ok (.aload_n 0, 1) := by decide +kernel
theorem dL_law_739 : decode cL_law 739 = .ok (.iload_n 3, 1) := by decide +kernel
theorem dL_law_740 : decode cL_law 740 = .ok (.iconst 1, 1) := by decide +kernel
theorem dL_law_741 : decode cL_law 741 = .ok (.iadd, 1) := by decide +kernel
theorem dL_law_742 : decode cL_law 742 = .ok (.iaload, 1) := by decide +kernel
theorem dL_law_743 : decode cL_law 743 = .ok (.invokevirtual 101, 3) := by decide +kernel
theorem dL_law_746 : decode cL_law 746 = .ok (.aload_n 2, 1) := by decide +kernel
theorem dL_law_747 : decode cL_law 747 = .ok (.aload_n 0, 1) := by decide +kernel
theorem dL_law_748 : decode cL_law 748 = .ok (.iload_n 3, 1) := by decide +kernel
theorem dL_law_749 : decode cL_law 749 = .ok (.iconst 1, 1) := by decide +kernel
theorem dL_law_750 : decode cL_law 750 = .ok (.iadd, 1) := by decide +kernel
theorem dL_law_751 : decode cL_law 751 = .ok (.iaload, 1) := by decide +kernel
theorem dL_law_752 : decode cL_law 752 = .ok (.invokevirtual 104, 3) := by decide +kernel
theorem dL_law_755 : decode cL_law 755 = .ok (.if_icmp .eq 106, 3) := by decide +kernel
theorem dL_law_758 : decode cL_law 758 = .ok (.iconst 0, 1) := by decide +kernel
theorem dL_law_759 : decode cL_law 759 = .ok (.ireturn, 1) := by decide +kernel
theorem dL_law_760 : decode cL_law 760 = .ok (.aload_n 1, 1) := by decide +kernel
theorem dL_law_761 : decode cL_law 761 = .ok (.aload_n 0, 1) := by decide +kernel
theorem dL_law_762 : decode cL_law 762 = .ok (.iload_n 3, 1) := by decide +kernel
theorem dL_law_763 : decode cL_law 763 = .ok (.iconst 1, 1) := by decide +kernel
theorem dL_law_764 : decode cL_law 764 = .ok (.iadd, 1) := by decide +kernel
theorem dL_law_765 : decode cL_law 765 = .ok (.iaload, 1) := by decide +kernel
theorem dL_law_766 : decode cL_law 766 = .ok (.invokevirtual 105, 3) := by decide +kernel
theorem dL_law_769 : decode cL_law 769 = .ok (.aload_n 2, 1) := by decide +kernel
theorem dL_law_770 : decode cL_law 770 = .ok (.aload_n 0, 1) := by decide +kernel
theorem dL_law_771 : decode cL_law 771 = .ok (.iload_n 3, 1) := by decide +kernel
theorem dL_law_772 : decode cL_law 772 = .ok (.iconst 1, 1) := by decide +kernel
theorem dL_law_773 : decode cL_law 773 = .ok (.iadd, 1) := by decide +kernel
theorem dL_law_774 : decode cL_law 774 = .ok (.iaload, 1) := by decide +kernel
theorem dL_law_775 : decode cL_law 775 = .ok (.invokevirtual 108, 3) := by decide +kernel
theorem dL_law_778 : decode cL_law 778 = .ok (.if_icmp .eq 83, 3) := by decide +kernel
theorem dL_law_781 : decode cL_law 781 = .ok (.iconst 0, 1) := by decide +kernel
theorem dL_law_782 : decode cL_law 782 = .ok (.ireturn, 1) := by decide +kernel
theorem dL_law_783 : decode cL_law 783 = .ok (.aload_n 1, 1) := by decide +kernel
theorem dL_law_784 : decode cL_law 784 = .ok (.invokevirtual 109, 3) := by decide +kernel
theorem dL_law_787 : decode cL_law 787 = .ok (.aload_n 2, 1) := by decide +kernel
theorem dL_law_788 : decode cL_law 788 = .ok (.invokevirtual 112, 3) := by decide +kernel
theorem dL_law_791 : decode cL_law 791 = .ok (.if_icmp .eq 70, 3) := by decide +kernel
theorem dL_law_794 : decode cL_law 794 = .ok (.iconst 0, 1) := by decide +kernel
theorem dL_law_795 : decode cL_law 795 = .ok (.ireturn, 1) := by decide +kernel
theorem dL_law_796 : decode cL_law 796 = .ok (.aload_n 1, 1) := by decide +kernel
theorem dL_law_797 : decode cL_law 797 = .ok (.invokevirtual 113, 3) := by decide +kernel
theorem dL_law_800 : decode cL_law 800 = .ok (.aload_n 2, 1) := by decide +kernel
theorem dL_law_801 : decode cL_law 801 = .ok (.invokevirtual 116, 3) := by decide +kernel
theorem dL_law_804 : decode cL_law 804 = .ok (.if_icmp .eq 57, 3) := by decide +kernel
theorem dL_law_807 : decode cL_law 807 = .ok (.iconst 0, 1) := by decide +kernel
theorem dL_law_808 : decode cL_law 808 = .ok (.ireturn, 1) := by decide +kernel
theorem dL_law_809 : decode cL_law 809 = .ok (.aload_n 1, 1) := by decide +kernel
theorem dL_law_810 : decode cL_law 810 = .ok (.invokevirtual 117, 3) := by decide +kernel
theorem dL_law_813 : decode cL_law 813 = .ok (.aload_n 2, 1) := by decide +kernel
theorem dL_law_814 : decode cL_law 814 = .ok (.invokevirtual 120, 3) := by decide +kernel
theorem dL_law_817 : decode cL_law 817 = .ok (.if_icmp .eq 44, 3) := by decide +kernel
theorem dL_law_820 : decode cL_law 820 = .ok (.iconst 0, 1) := by decide +kernel
theorem dL_law_821 : decode cL_law 821 = .ok (.ireturn, 1) := by decide +kernel
theorem dL_law_822 : decode cL_law 822 = .ok (.aload_n 1, 1) := by decide +kernel
theorem dL_law_823 : decode cL_law 823 = .ok (.invokevirtual 121, 3) := by decide +kernel
theorem dL_law_826 : decode cL_law 826 = .ok (.aload_n 2, 1) := by decide +kernel
theorem dL_law_827 : decode cL_law 827 = .ok (.invokevirtual 124, 3) := by decide +kernel
theorem dL_law_830 : decode cL_law 830 = .ok (.if_icmp .eq 31, 3) := by decide +kernel
theorem dL_law_833 : decode cL_law 833 = .ok (.iconst 0, 1) := by decide +kernel
theorem dL_law_834 : decode cL_law 834 = .ok (.ireturn, 1) := by decide +kernel
theorem dL_law_835 : decode cL_law 835 = .ok (.aload_n 1, 1) := by decide +kernel
theorem dL_law_836 : decode cL_law 836 = .ok (.invokevirtual 125, 3) := by decide +kernel
theorem dL_law_839 : decode cL_law 839 = .ok (.aload_n 2, 1) := by decide +kernel
theorem dL_law_840 : decode cL_law 840 = .ok (.invokevirtual 128, 3) := by decide +kernel
theorem dL_law_843 : decode cL_law 843 = .ok (.if_icmp .eq 18, 3) := by decide +kernel
theorem dL_law_846 : decode cL_law 846 = .ok (.iconst 0, 1) := by decide +kernel
theorem dL_law_847 : decode cL_law 847 = .ok (.ireturn, 1) := by decide +kernel
theorem dL_law_848 : decode cL_law 848 = .ok (.aload_n 1, 1) := by decide +kernel
theorem dL_law_849 : decode cL_law 849 = .ok (.invokevirtual 129, 3) := by decide +kernel
theorem dL_law_852 : decode cL_law 852 = .ok (.aload_n 2, 1) := by decide +kernel
theorem dL_law_853 : decode cL_law 853 = .ok (.invokevirtual 132, 3) := by decide +kernel
theorem dL_law_856 : decode cL_law 856 = .ok (.if_icmp .eq 5, 3) := by decide +kernel
theorem dL_law_859 : decode cL_law 859 = .ok (.iconst 0, 1) := by decide +kernel
theorem dL_law_860 : decode cL_law 860 = .ok (.ireturn, 1) := by decide +kernel
theorem dL_law_861 : decode cL_law 861 = .ok (.iinc 3 4, 3) := by decide +kernel
theorem dL_law_864 : decode cL_law 864 = .ok (.goto (-846), 3) := by decide +kernel
theorem dL_law_867 : decode cL_law 867 = .ok (.iconst 1, 1) := by decide +kernel
theorem dL_law_868 : decode cL_law 868 = .ok (.ireturn, 1) := by decide +kernel
abbrev vwCl : List vw_C := [(RX0, TX0, 3), (RX1, TX1, 14), (RX2, TX2, 2), (RX3, TX3, 8), (RX4, TX4, 14)]
