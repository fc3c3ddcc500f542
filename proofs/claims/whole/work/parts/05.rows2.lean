theorem dX3_isCode_13 : decode cX3_isCode 13 = .ok (.ireturn, 1) := by decide +kernel
theorem dX3_isCode_14 : decode cX3_isCode 14 = .ok (.iload_n 1, 1) := by decide +kernel
theorem dX3_isCode_15 : decode cX3_isCode 15 = .ok (.invokestatic 162, 3) := by decide +kernel
theorem dX3_isCode_18 : decode cX3_isCode 18 = .ok (.ifCond .lt 7, 3) := by decide +kernel
theorem dX3_isCode_21 : decode cX3_isCode 21 = .ok (.iconst 1, 1) := by decide +kernel
theorem dX3_isCode_22 : decode cX3_isCode 22 = .ok (.goto 4, 3) := by decide +kernel
theorem dX3_isCode_25 : decode cX3_isCode 25 = .ok (.iconst 0, 1) := by decide +kernel
theorem dX3_isCode_26 : decode cX3_isCode 26 = .ok (.ireturn, 1) := by decide +kernel
set_option maxRecDepth 20000 in
theorem ggX3_codeOf_X3_isPlace : GoodIn wsX3_codeOf wsX3_isPlace := goodIn_r _ [4, 5, 6, 3, 7] (by decide +kernel) (by decide +kernel)
set_option maxRecDepth 20000 in
theorem gX3_codeOf_X3_isPlace : GoodIn wsX3_codeOf (va_wsS RX3 103 yX3_isPlace wsX3_isPlace) := goodIn_app (goodIn_of _ (by decide +kernel)) ggX3_codeOf_X3_isPlace
set_option maxRecDepth 20000 in
theorem ggX3_codeOf_X3_isWithin : GoodIn wsX3_codeOf wsX3_isWithin := goodIn_r _ [7] (by decide +kernel) (by decide +kernel)
set_option maxRecDepth 20000 in
theorem gX3_codeOf_X3_isWithin : GoodIn wsX3_codeOf (va_wsS RX3 59 yX3_isWithin wsX3_isWithin) := goodIn_app (goodIn_of _ (by decide +kernel)) ggX3_codeOf_X3_isWithin
set_option maxRecDepth 20000 in
theorem ggX3_codeOf_X3_weekdayOf : GoodIn wsX3_codeOf wsX3_weekdayOf := goodIn_r _ [10] (by decide +kernel) (by decide +kernel)
set_option maxRecDepth 20000 in
theorem gX3_codeOf_X3_weekdayOf : GoodIn wsX3_codeOf (va_wsS RX3 165 yX3_weekdayOf wsX3_weekdayOf) := goodIn_app (goodIn_of _ (by decide +kernel)) ggX3_codeOf_X3_weekdayOf
set_option maxRecDepth 20000 in
theorem ggX3_codeOf_X3_codeFor : GoodIn wsX3_codeOf wsX3_codeFor := goodIn_r _ [13, 14, 15, 3, 16] (by decide +kernel) (by decide +kernel)
set_option maxRecDepth 20000 in
theorem gX3_codeOf_X3_codeFor : GoodIn wsX3_codeOf (va_wsS RX3 168 yX3_codeFor wsX3_codeFor) := goodIn_app (goodIn_of _ (by decide +kernel)) ggX3_codeOf_X3_codeFor
theorem dX3_codeOf_0 : decode cX3_codeOf 0 = .ok (.iload_n 2, 1) := by decide +kernel
theorem dX3_codeOf_1 : decode cX3_codeOf 1 = .ok (.iload_n 3, 1) := by decide +kernel
theorem dX3_codeOf_2 : decode cX3_codeOf 2 = .ok (.invokestatic 103, 3) := by decide +kernel
theorem dX3_codeOf_5 : decode cX3_codeOf 5 = .ok (.ifCond .ne 5, 3) := by decide +kernel
theorem dX3_codeOf_8 : decode cX3_codeOf 8 = .ok (.iconst (-1), 1) := by decide +kernel
theorem dX3_codeOf_9 : decode cX3_codeOf 9 = .ok (.ireturn, 1) := by decide +kernel
theorem dX3_codeOf_10 : decode cX3_codeOf 10 = .ok (.iload_n 1, 1) := by decide +kernel
theorem dX3_codeOf_11 : decode cX3_codeOf 11 = .ok (.iconst 0, 1) := by decide +kernel
theorem dX3_codeOf_12 : decode cX3_codeOf 12 = .ok (.sipush 9999, 3) := by decide +kernel
theorem dX3_codeOf_15 : decode cX3_codeOf 15 = .ok (.invokestatic 59, 3) := by decide +kernel
theorem dX3_codeOf_18 : decode cX3_codeOf 18 = .ok (.ifCond .ne 6, 3) := by decide +kernel
theorem dX3_codeOf_21 : decode cX3_codeOf 21 = .ok (.bipush (-2), 2) := by decide +kernel
theorem dX3_codeOf_23 : decode cX3_codeOf 23 = .ok (.ireturn, 1) := by decide +kernel
theorem dX3_codeOf_24 : decode cX3_codeOf 24 = .ok (.iload_n 1, 1) := by decide +kernel
theorem dX3_codeOf_25 : decode cX3_codeOf 25 = .ok (.invokestatic 165, 3) := by decide +kernel
theorem dX3_codeOf_28 : decode cX3_codeOf 28 = .ok (.iload_n 2, 1) := by decide +kernel
theorem dX3_codeOf_29 : decode cX3_codeOf 29 = .ok (.bipush 8, 2) := by decide +kernel
theorem dX3_codeOf_31 : decode cX3_codeOf 31 = .ok (.imul, 1) := by decide +kernel
theorem dX3_codeOf_32 : decode cX3_codeOf 32 = .ok (.iload_n 3, 1) := by decide +kernel
theorem dX3_codeOf_33 : decode cX3_codeOf 33 = .ok (.iadd, 1) := by decide +kernel
theorem dX3_codeOf_34 : decode cX3_codeOf 34 = .ok (.invokestatic 168, 3) := by decide +kernel
theorem dX3_codeOf_37 : decode cX3_codeOf 37 = .ok (.ireturn, 1) := by decide +kernel
set_option maxRecDepth 20000 in
theorem ggX3_restsUntil_X3_isWithin : GoodIn wsX3_restsUntil wsX3_isWithin := goodIn_r _ [7] (by decide +kernel) (by decide +kernel)
set_option maxRecDepth 20000 in
theorem gX3_restsUntil_X3_isWithin : GoodIn wsX3_restsUntil (va_wsS RX3 59 yX3_isWithin wsX3_isWithin) := goodIn_app (goodIn_of _ (by decide +kernel)) ggX3_restsUntil_X3_isWithin
set_option maxRecDepth 20000 in
theorem ggX3_restsUntil_X3_indexOfCode : GoodIn wsX3_restsUntil wsX3_indexOfCode := goodIn_r _ [10, 4, 5, 6, 7, 11, 12, 13, 14, 15, 16, 17, 18, 19] (by decide +kernel) (by decide +kernel)
set_option maxRecDepth 20000 in
theorem gX3_restsUntil_X3_indexOfCode : GoodIn wsX3_restsUntil (va_wsS RX3 162 yX3_indexOfCode wsX3_indexOfCode) := goodIn_app (goodIn_of _ (by decide +kernel)) ggX3_restsUntil_X3_indexOfCode
set_option maxRecDepth 20000 in
theorem ggX3_restsUntil_X1_rests : GoodIn wsX3_restsUntil wsX1_rests := goodIn_r _ [24, 25, 26, 27, 36, 37, 38, 39, 40, 41, 42, 43, 44, 45, 46, 47, 48, 49] (by decide +kernel) (by decide +kernel)
set_option maxRecDepth 20000 in
theorem gX3_restsUntil_X1_rests : GoodIn wsX3_restsUntil (wsV RX3 171 RX1 yX1_rests wsX1_rests) := goodIn_app (goodIn_of _ (by decide +kernel)) ggX3_restsUntil_X1_rests
theorem dX3_restsUntil_0 : decode cX3_restsUntil 0 = .ok (.iload_n 1, 1) := by decide +kernel
theorem dX3_restsUntil_1 : decode cX3_restsUntil 1 = .ok (.iconst 0, 1) := by decide +kernel
theorem dX3_restsUntil_2 : decode cX3_restsUntil 2 = .ok (.sipush 9999, 3) := by decide +kernel
theorem dX3_restsUntil_5 : decode cX3_restsUntil 5 = .ok (.invokestatic 59, 3) := by decide +kernel
theorem dX3_restsUntil_8 : decode cX3_restsUntil 8 = .ok (.ifCond .ne 6, 3) := by decide +kernel
theorem dX3_restsUntil_11 : decode cX3_restsUntil 11 = .ok (.bipush (-2), 2) := by decide +kernel
theorem dX3_restsUntil_13 : decode cX3_restsUntil 13 = .ok (.ireturn, 1) := by decide +kernel
theorem dX3_restsUntil_14 : decode cX3_restsUntil 14 = .ok (.iload_n 1, 1) := by decide +kernel
theorem dX3_restsUntil_15 : decode cX3_restsUntil 15 = .ok (.invokestatic 162, 3) := by decide +kernel
theorem dX3_restsUntil_18 : decode cX3_restsUntil 18 = .ok (.istore_n 2, 1) := by decide +kernel
theorem dX3_restsUntil_19 : decode cX3_restsUntil 19 = .ok (.iload_n 2, 1) := by decide +kernel
theorem dX3_restsUntil_20 : decode cX3_restsUntil 20 = .ok (.ifCond .lt 14, 3) := by decide +kernel
theorem dX3_restsUntil_23 : decode cX3_restsUntil 23 = .ok (.aload_n 0, 1) := by decide +kernel
theorem dX3_restsUntil_24 : decode cX3_restsUntil 24 = .ok (.getfield 12, 3) := by decide +kernel
theorem dX3_restsUntil_27 : decode cX3_restsUntil 27 = .ok (.iload_n 2, 1) := by decide +kernel
theorem dX3_restsUntil_28 : decode cX3_restsUntil 28 = .ok (.invokevirtual 171, 3) := by decide +kernel
theorem dX3_restsUntil_31 : decode cX3_restsUntil 31 = .ok (.ifCond .ne 6, 3) := by decide +kernel
theorem dX3_restsUntil_34 : decode cX3_restsUntil 34 = .ok (.bipush (-6), 2) := by decide +kernel
theorem dX3_restsUntil_36 : decode cX3_restsUntil 36 = .ok (.ireturn, 1) := by decide +kernel
theorem dX3_restsUntil_37 : decode cX3_restsUntil 37 = .ok (.aload_n 0, 1) := by decide +kernel
theorem dX3_restsUntil_38 : decode cX3_restsUntil 38 = .ok (.getfield 12, 3) := by decide +kernel
theorem dX3_restsUntil_41 : decode cX3_restsUntil 41 = .ok (.getfield 174, 3) := by decide +kernel
theorem dX3_restsUntil_44 : decode cX3_restsUntil 44 = .ok (.iload_n 2, 1) := by decide +kernel
theorem dX3_restsUntil_45 : decode cX3_restsUntil 45 = .ok (.iaload, 1) := by decide +kernel
theorem dX3_restsUntil_46 : decode cX3_restsUntil 46 = .ok (.aload_n 0, 1) := by decide +kernel
theorem dX3_restsUntil_47 : decode cX3_restsUntil 47 = .ok (.getfield 12, 3) := by decide +kernel
theorem dX3_restsUntil_50 : decode cX3_restsUntil 50 = .ok (.getfield 63, 3) := by decide +kernel
theorem dX3_restsUntil_53 : decode cX3_restsUntil 53 = .ok (.iconst 0, 1) := by decide +kernel
theorem dX3_restsUntil_54 : decode cX3_restsUntil 54 = .ok (.iaload, 1) := by decide +kernel
theorem dX3_restsUntil_55 : decode cX3_restsUntil 55 = .ok (.iadd, 1) := by decide +kernel
theorem dX3_restsUntil_56 : decode cX3_restsUntil 56 = .ok (.ireturn, 1) := by decide +kernel
set_option maxRecDepth 20000 in
theorem ggX3_nextCode_X3_isWithin : GoodIn wsX3_nextCode wsX3_isWithin := goodIn_r _ [6] (by decide +kernel) (by decide +kernel)
set_option maxRecDepth 20000 in
theorem gX3_nextCode_X3_isWithin : GoodIn wsX3_nextCode (va_wsS RX3 59 yX3_isWithin wsX3_isWithin) := goodIn_app (goodIn_of _ (by decide +kernel)) ggX3_nextCode_X3_isWithin
set_option maxRecDepth 20000 in
theorem ggX3_nextCode_X3_firstShelfFor : GoodIn wsX3_nextCode wsX3_firstShelfFor := goodIn_r _ [9] (by decide +kernel) (by decide +kernel)
set_option maxRecDepth 20000 in
theorem gX3_nextCode_X3_firstShelfFor : GoodIn wsX3_nextCode (va_wsS RX3 177 yX3_firstShelfFor wsX3_firstShelfFor) := goodIn_app (goodIn_of _ (by decide +kernel)) ggX3_nextCode_X3_firstShelfFor
set_option maxRecDepth 20000 in
theorem ggX3_nextCode_X1_placeToGive : GoodIn wsX3_nextCode wsX1_placeToGive := goodIn_r _ [14, 15, 16, 17, 13, 18, 19, 20, 21, 22, 23, 24, 25, 5, 26, 27, 28, 29, 30, 31, 32, 33, 34, 50, 51, 52, 53, 54, 55, 56, 57, 58, 59, 60, 61, 62, 63] (by decide +kernel) (by decide +kernel)
set_option maxRecDepth 20000 in
theorem gX3_nextCode_X1_placeToGive : GoodIn wsX3_nextCode (wsV RX3 180 RX1 yX1_placeToGive wsX1_placeToGive) := goodIn_app (goodIn_of _ (by decide +kernel)) ggX3_nextCode_X1_placeToGive
set_option maxRecDepth 20000 in
theorem ggX3_nextCode_X3_weekdayOf : GoodIn wsX3_nextCode wsX3_weekdayOf := goodIn_r _ [26] (by decide +kernel) (by decide +kernel)
set_option maxRecDepth 20000 in
theorem gX3_nextCode_X3_weekdayOf : GoodIn wsX3_nextCode (va_wsS RX3 165 yX3_weekdayOf wsX3_weekdayOf) := goodIn_app (goodIn_of _ (by decide +kernel)) ggX3_nextCode_X3_weekdayOf
set_option maxRecDepth 20000 in
theorem ggX3_nextCode_X3_codeFor : GoodIn wsX3_nextCode wsX3_codeFor := goodIn_r _ [38, 39, 40, 5, 41] (by decide +kernel) (by decide +kernel)
set_option maxRecDepth 20000 in
theorem gX3_nextCode_X3_codeFor : GoodIn wsX3_nextCode (va_wsS RX3 168 yX3_codeFor wsX3_codeFor) := goodIn_app (goodIn_of _ (by decide +kernel)) ggX3_nextCode_X3_codeFor
theorem dX3_nextCode_0 : decode cX3_nextCode 0 = .ok (.iload_n 1, 1) := by decide +kernel
theorem dX3_nextCode_1 : decode cX3_nextCode 1 = .ok (.iconst 0, 1) := by decide +kernel
theorem dX3_nextCode_2 : decode cX3_nextCode 2 = .ok (.iconst 2, 1) := by decide +kernel
theorem dX3_nextCode_3 : decode cX3_nextCode 3 = .ok (.invokestatic 59, 3) := by decide +kernel
theorem dX3_nextCode_6 : decode cX3_nextCode 6 = .ok (.ifCond .ne 6, 3) := by decide +kernel
theorem dX3_nextCode_9 : decode cX3_nextCode 9 = .ok (.bipush (-2), 2) := by decide +kernel
theorem dX3_nextCode_11 : decode cX3_nextCode 11 = .ok (.ireturn, 1) := by decide +kernel
theorem dX3_nextCode_12 : decode cX3_nextCode 12 = .ok (.aload_n 0, 1) := by decide +kernel
theorem dX3_nextCode_13 : decode cX3_nextCode 13 = .ok (.getfield 12, 3) := by decide +kernel
theorem dX3_nextCode_16 : decode cX3_nextCode 16 = .ok (.iload_n 1, 1) := by decide +kernel
theorem dX3_nextCode_17 : decode cX3_nextCode 17 = .ok (.invokestatic 177, 3) := by decide +kernel
theorem dX3_nextCode_20 : decode cX3_nextCode 20 = .ok (.iconst 5, 1) := by decide +kernel
theorem dX3_nextCode_21 : decode cX3_nextCode 21 = .ok (.invokevirtual 180, 3) := by decide +kernel
theorem dX3_nextCode_24 : decode cX3_nextCode 24 = .ok (.istore_n 2, 1) := by decide +kernel
theorem dX3_nextCode_25 : decode cX3_nextCode 25 = .ok (.iload_n 2, 1) := by decide +kernel
theorem dX3_nextCode_26 : decode cX3_nextCode 26 = .ok (.iconst (-1), 1) := by decide +kernel
theorem dX3_nextCode_27 : decode cX3_nextCode 27 = .ok (.if_icmp .ne 8, 3) := by decide +kernel
theorem dX3_nextCode_30 : decode cX3_nextCode 30 = .ok (.bipush (-6), 2) := by decide +kernel
theorem dX3_nextCode_32 : decode cX3_nextCode 32 = .ok (.goto 17, 3) := by decide +kernel
theorem dX3_nextCode_35 : decode cX3_nextCode 35 = .ok (.aload_n 0, 1) := by decide +kernel
theorem dX3_nextCode_36 : decode cX3_nextCode 36 = .ok (.getfield 12, 3) := by decide +kernel
theorem dX3_nextCode_39 : decode cX3_nextCode 39 = .ok (.getfield 85, 3) := by decide +kernel
theorem dX3_nextCode_42 : decode cX3_nextCode 42 = .ok (.invokestatic 165, 3) := by decide +kernel
theorem dX3_nextCode_45 : decode cX3_nextCode 45 = .ok (.iload_n 2, 1) := by decide +kernel
theorem dX3_nextCode_46 : decode cX3_nextCode 46 = .ok (.invokestatic 168, 3) := by decide +kernel
theorem dX3_nextCode_49 : decode cX3_nextCode 49 = .ok (.ireturn, 1) := by decide +kernel
set_option maxRecDepth 20000 in
theorem ggX3_feeIn_X1_placeWith : GoodIn wsX3_feeIn wsX1_placeWith := goodIn_r _ [6, 7, 8, 9, 10, 11, 12, 13, 14, 15, 16, 17, 18, 19, 20, 21, 22, 43, 44, 45, 46, 47, 48, 49, 50, 51, 52, 53, 54, 55, 56] (by decide +kernel) (by decide +kernel)
set_option maxRecDepth 20000 in
theorem gX3_feeIn_X1_placeWith : GoodIn wsX3_feeIn (wsV RX3 88 RX1 yX1_placeWith wsX1_placeWith) := goodIn_app (goodIn_of _ (by decide +kernel)) ggX3_feeIn_X1_placeWith
set_option maxRecDepth 20000 in
theorem ggX3_feeIn_X3_isWithin : GoodIn wsX3_feeIn wsX3_isWithin := goodIn_r _ [13] (by decide +kernel) (by decide +kernel)
set_option maxRecDepth 20000 in
theorem gX3_feeIn_X3_isWithin : GoodIn wsX3_feeIn (va_wsS RX3 59 yX3_isWithin wsX3_isWithin) := goodIn_app (goodIn_of _ (by decide +kernel)) ggX3_feeIn_X3_isWithin
set_option maxRecDepth 20000 in
theorem ggX3_feeIn_X1_feeAfter : GoodIn wsX3_feeIn wsX1_feeAfter := goodIn_r _ [26, 27, 28, 29, 30, 31, 32, 33, 34, 43, 44, 45, 46, 47, 48, 49, 50, 51, 52, 53, 54, 55, 56] (by decide +kernel) (by decide +kernel)
set_option maxRecDepth 20000 in
theorem gX3_feeIn_X1_feeAfter : GoodIn wsX3_feeIn (wsV RX3 100 RX1 yX1_feeAfter wsX1_feeAfter) := goodIn_app (goodIn_of _ (by decide +kernel)) ggX3_feeIn_X1_feeAfter
theorem dX3_feeIn_0 : decode cX3_feeIn 0 = .ok (.aload_n 0, 1) := by decide +kernel
theorem dX3_feeIn_1 : decode cX3_feeIn 1 = .ok (.getfield 12, 3) := by decide +kernel
theorem dX3_feeIn_4 : decode cX3_feeIn 4 = .ok (.iload_n 1, 1) := by decide +kernel
theorem dX3_feeIn_5 : decode cX3_feeIn 5 = .ok (.invokevirtual 88, 3) := by decide +kernel
theorem dX3_feeIn_8 : decode cX3_feeIn 8 = .ok (.istore_n 3, 1) := by decide +kernel
theorem dX3_feeIn_9 : decode cX3_feeIn 9 = .ok (.iload_n 3, 1) := by decide +kernel
theorem dX3_feeIn_10 : decode cX3_feeIn 10 = .ok (.iconst (-1), 1) := by decide +kernel
theorem dX3_feeIn_11 : decode cX3_feeIn 11 = .ok (.if_icmp .ne 5, 3) := by decide +kernel
theorem dX3_feeIn_14 : decode cX3_feeIn 14 = .ok (.iconst (-1), 1) := by decide +kernel
theorem dX3_feeIn_15 : decode cX3_feeIn 15 = .ok (.ireturn, 1) := by decide +kernel
theorem dX3_feeIn_16 : decode cX3_feeIn 16 = .ok (.iload_n 2, 1) := by decide +kernel
theorem dX3_feeIn_17 : decode cX3_feeIn 17 = .ok (.iconst 0, 1) := by decide +kernel
theorem dX3_feeIn_18 : decode cX3_feeIn 18 = .ok (.bipush 99, 2) := by decide +kernel
theorem dX3_feeIn_20 : decode cX3_feeIn 20 = .ok (.invokestatic 59, 3) := by decide +kernel
theorem dX3_feeIn_23 : decode cX3_feeIn 23 = .ok (.ifCond .ne 6, 3) := by decide +kernel
theorem dX3_feeIn_26 : decode cX3_feeIn 26 = .ok (.bipush (-2), 2) := by decide +kernel
theorem dX3_feeIn_28 : decode cX3_feeIn 28 = .ok (.ireturn, 1) := by decide +kernel
theorem dX3_feeIn_29 : decode cX3_feeIn 29 = .ok (.aload_n 0, 1) := by decide +kernel
theorem dX3_feeIn_30 : decode cX3_feeIn 30 = .ok (.getfield 12, 3) := by decide +kernel
theorem dX3_feeIn_33 : decode cX3_feeIn 33 = .ok (.iload_n 3, 1) := by decide +kernel
theorem dX3_feeIn_34 : decode cX3_feeIn 34 = .ok (.iload_n 2, 1) := by decide +kernel
theorem dX3_feeIn_35 : decode cX3_feeIn 35 = .ok (.invokevirtual 100, 3) := by decide +kernel
theorem dX3_feeIn_38 : decode cX3_feeIn 38 = .ok (.ireturn, 1) := by decide +kernel
set_option maxRecDepth 20000 in
theorem ggX3_goesIn_X1_placeWith : GoodIn wsX3_goesIn wsX1_placeWith := goodIn_r _ [7, 8, 9, 10, 11, 12, 13, 14, 15, 16, 17, 18, 19, 20, 21, 22, 23, 81, 82, 83, 84, 85, 86, 87, 88, 89, 90, 91, 92, 93, 94] (by decide +kernel) (by decide +kernel)
set_option maxRecDepth 20000 in
theorem gX3_goesIn_X1_placeWith : GoodIn wsX3_goesIn (wsV RX3 88 RX1 yX1_placeWith wsX1_placeWith) := goodIn_app (goodIn_of _ (by decide +kernel)) ggX3_goesIn_X1_placeWith
set_option maxRecDepth 20000 in
theorem ggX3_goesIn_X1_copyFrom : GoodIn wsX3_goesIn wsX1_copyFrom := goodIn_r _ [27, 28, 29, 30, 31, 32, 33, 34, 35, 36, 8, 37, 38, 39, 40, 41, 42, 43, 44, 81, 82, 83, 84, 85, 86, 87, 88, 89, 90, 91, 92, 93, 94] (by decide +kernel) (by decide +kernel)
set_option maxRecDepth 20000 in
theorem gX3_goesIn_X1_copyFrom : GoodIn wsX3_goesIn (wsV RX3 183 RX1 yX1_copyFrom wsX1_copyFrom) := goodIn_app (goodIn_of _ (by decide +kernel)) ggX3_goesIn_X1_copyFrom
set_option maxRecDepth 20000 in
theorem ggX3_goesIn_X1_beginDay : GoodIn wsX3_goesIn wsX1_beginDay := goodIn_r _ [48, 28, 29, 49, 50, 51, 6, 52, 41, 32, 53, 54, 55, 56, 42, 44, 57, 58, 59, 60, 37, 61, 62, 63, 64, 8, 39, 65, 66, 67, 68, 40, 22, 10, 23, 81, 82, 83, 84, 85, 86, 87, 88, 89, 90, 91, 92, 93, 94] (by decide +kernel) (by decide +kernel)
set_option maxRecDepth 20000 in
theorem gX3_goesIn_X1_beginDay : GoodIn wsX3_goesIn (wsV RX3 186 RX1 yX1_beginDay wsX1_beginDay) := goodIn_app (goodIn_of _ (by decide +kernel)) ggX3_goesIn_X1_beginDay
set_option maxRecDepth 20000 in
theorem ggX3_goesIn_X1_isFree : GoodIn wsX3_goesIn wsX1_isFree := goodIn_r _ [72, 8, 81, 82, 83, 84, 85, 86, 87, 88, 89, 90, 91, 92, 93, 94] (by decide +kernel) (by decide +kernel)
set_option maxRecDepth 20000 in
theorem gX3_goesIn_X1_isFree : GoodIn wsX3_goesIn (wsV RX3 107 RX1 yX1_isFree wsX1_isFree) := goodIn_app (goodIn_of _ (by decide +kernel)) ggX3_goesIn_X1_isFree
theorem dX3_goesIn_0 : decode cX3_goesIn 0 = .ok (.aload_n 0, 1) := by decide +kernel
theorem dX3_goesIn_1 : decode cX3_goesIn 1 = .ok (.getfield 12, 3) := by decide +kernel
theorem dX3_goesIn_4 : decode cX3_goesIn 4 = .ok (.iload_n 1, 1) := by decide +kernel
theorem dX3_goesIn_5 : decode cX3_goesIn 5 = .ok (.invokevirtual 88, 3) := by decide +kernel
theorem dX3_goesIn_8 : decode cX3_goesIn 8 = .ok (.istore_n 2, 1) := by decide +kernel
theorem dX3_goesIn_9 : decode cX3_goesIn 9 = .ok (.iload_n 2, 1) := by decide +kernel
theorem dX3_goesIn_10 : decode cX3_goesIn 10 = .ok (.iconst (-1), 1) := by decide +kernel
theorem dX3_goesIn_11 : decode cX3_goesIn 11 = .ok (.if_icmp .ne 5, 3) := by decide +kernel
theorem dX3_goesIn_14 : decode cX3_goesIn 14 = .ok (.iconst (-1), 1) := by decide +kernel
theorem dX3_goesIn_15 : decode cX3_goesIn 15 = .ok (.ireturn, 1) := by decide +kernel
theorem dX3_goesIn_16 : decode cX3_goesIn 16 = .ok (.aload_n 0, 1) := by decide +kernel
theorem dX3_goesIn_17 : decode cX3_goesIn 17 = .ok (.getfield 19, 3) := by decide +kernel
theorem dX3_goesIn_20 : decode cX3_goesIn 20 = .ok (.aload_n 0, 1) := by decide +kernel
theorem dX3_goesIn_21 : decode cX3_goesIn 21 = .ok (.getfield 12, 3) := by decide +kernel
theorem dX3_goesIn_24 : decode cX3_goesIn 24 = .ok (.invokevirtual 183, 3) := by decide +kernel
theorem dX3_goesIn_27 : decode cX3_goesIn 27 = .ok (.iconst 1, 1) := by decide +kernel
theorem dX3_goesIn_28 : decode cX3_goesIn 28 = .ok (.istore_n 3, 1) := by decide +kernel
theorem dX3_goesIn_29 : decode cX3_goesIn 29 = .ok (.iload_n 3, 1) := by decide +kernel
theorem dX3_goesIn_30 : decode cX3_goesIn 30 = .ok (.bipush 60, 2) := by decide +kernel
theorem dX3_goesIn_32 : decode cX3_goesIn 32 = .ok (.if_icmp .gt 30, 3) := by decide +kernel
theorem dX3_goesIn_35 : decode cX3_goesIn 35 = .ok (.aload_n 0, 1) := by decide +kernel
theorem dX3_goesIn_36 : decode cX3_goesIn 36 = .ok (.getfield 19, 3) := by decide +kernel
theorem dX3_goesIn_39 : decode cX3_goesIn 39 = .ok (.invokevirtual 186, 3) := by decide +kernel
theorem dX3_goesIn_42 : decode cX3_goesIn 42 = .ok (.pop, 1) := by decide +kernel
theorem dX3_goesIn_43 : decode cX3_goesIn 43 = .ok (.aload_n 0, 1) := by decide +kernel
theorem dX3_goesIn_44 : decode cX3_goesIn 44 = .ok (.getfield 19, 3) := by decide +kernel
theorem dX3_goesIn_47 : decode cX3_goesIn 47 = .ok (.iload_n 2, 1) := by decide +kernel
theorem dX3_goesIn_48 : decode cX3_goesIn 48 = .ok (.invokevirtual 107, 3) := by decide +kernel
theorem dX3_goesIn_51 : decode cX3_goesIn 51 = .ok (.ifCond .eq 5, 3) := by decide +kernel
theorem dX3_goesIn_54 : decode cX3_goesIn 54 = .ok (.iload_n 3, 1) := by decide +kernel
theorem dX3_goesIn_55 : decode cX3_goesIn 55 = .ok (.ireturn, 1) := by decide +kernel
theorem dX3_goesIn_56 : decode cX3_goesIn 56 = .ok (.iinc 3 1, 3) := by decide +kernel
theorem dX3_goesIn_59 : decode cX3_goesIn 59 = .ok (.goto (-30), 3) := by decide +kernel
theorem dX3_goesIn_62 : decode cX3_goesIn 62 = .ok (.bipush (-6), 2) := by decide +kernel
theorem dX3_goesIn_64 : decode cX3_goesIn 64 = .ok (.ireturn, 1) := by decide +kernel
set_option maxRecDepth 20000 in
theorem ggX3_chargesIn_X3_isWithin : GoodIn wsX3_chargesIn wsX3_isWithin := goodIn_r _ [7] (by decide +kernel) (by decide +kernel)
set_option maxRecDepth 20000 in
theorem gX3_chargesIn_X3_isWithin : GoodIn wsX3_chargesIn (va_wsS RX3 59 yX3_isWithin wsX3_isWithin) := goodIn_app (goodIn_of _ (by decide +kernel)) ggX3_chargesIn_X3_isWithin
set_option maxRecDepth 20000 in
theorem ggX3_chargesIn_X1_copyFrom : GoodIn wsX3_chargesIn wsX1_copyFrom := goodIn_r _ [12, 13, 14, 15, 16, 17, 18, 19, 20, 21, 22, 23, 24, 25, 26, 27, 28, 29, 30, 68, 69, 70, 71, 72, 73, 74, 75, 76, 77, 78, 79, 80, 81] (by decide +kernel) (by decide +kernel)
set_option maxRecDepth 20000 in
theorem gX3_chargesIn_X1_copyFrom : GoodIn wsX3_chargesIn (wsV RX3 183 RX1 yX1_copyFrom wsX1_copyFrom) := goodIn_app (goodIn_of _ (by decide +kernel)) ggX3_chargesIn_X1_copyFrom
set_option maxRecDepth 20000 in
theorem ggX3_chargesIn_X1_beginDay : GoodIn wsX3_chargesIn wsX1_beginDay := goodIn_r _ [34, 13, 14, 35, 36, 37, 11, 38, 27, 17, 39, 40, 41, 42, 28, 30, 43, 44, 45, 46, 23, 47, 48, 49, 50, 22, 25, 51, 52, 53, 54, 26, 55, 6, 56, 68, 69, 70, 71, 72, 73, 74, 75, 76, 77, 78, 79, 80, 81] (by decide +kernel) (by decide +kernel)
set_option maxRecDepth 20000 in
theorem gX3_chargesIn_X1_beginDay : GoodIn wsX3_chargesIn (wsV RX3 186 RX1 yX1_beginDay wsX1_beginDay) := goodIn_app (goodIn_of _ (by decide +kernel)) ggX3_chargesIn_X1_beginDay
set_option maxRecDepth 20000 in
theorem ggX3_chargesIn_X3_sum : GoodIn wsX3_chargesIn wsX3_sum := goodIn_r _ [59] (by decide +kernel) (by decide +kernel)
set_option maxRecDepth 20000 in
theorem gX3_chargesIn_X3_sum : GoodIn wsX3_chargesIn (va_wsS RX3 142 yX3_sum wsX3_sum) := goodIn_app (goodIn_of _ (by decide +kernel)) ggX3_chargesIn_X3_sum
theorem dX3_chargesIn_0 : decode cX3_chargesIn 0 = .ok (.iload_n 1, 1) := by decide +kernel
theorem dX3_chargesIn_1 : decode cX3_chargesIn 1 = .ok (.iconst 1, 1) := by decide +kernel
theorem dX3_chargesIn_2 : decode cX3_chargesIn 2 = .ok (.bipush 30, 2) := by decide +kernel
theorem dX3_chargesIn_4 : decode cX3_chargesIn 4 = .ok (.invokestatic 59, 3) := by decide +kernel
theorem dX3_chargesIn_7 : decode cX3_chargesIn 7 = .ok (.ifCond .ne 6, 3) := by decide +kernel
theorem dX3_chargesIn_10 : decode cX3_chargesIn 10 = .ok (.bipush (-2), 2) := by decide +kernel
theorem dX3_chargesIn_12 : decode cX3_chargesIn 12 = .ok (.ireturn, 1) := by decide +kernel
theorem dX3_chargesIn_13 : decode cX3_chargesIn 13 = .ok (.aload_n 0, 1) := by decide +kernel
theorem dX3_chargesIn_14 : decode cX3_chargesIn 14 = .ok (.getfield 19, 3) := by decide +kernel
theorem dX3_chargesIn_17 : decode cX3_chargesIn 17 = .ok (.aload_n 0, 1) := by decide +kernel
theorem dX3_chargesIn_18 : decode cX3_chargesIn 18 = .ok (.getfield 12, 3) := by decide +kernel
theorem dX3_chargesIn_21 : decode cX3_chargesIn 21 = .ok (.invokevirtual 183, 3) := by decide +kernel
theorem dX3_chargesIn_24 : decode cX3_chargesIn 24 = .ok (.iconst 0, 1) := by decide +kernel
theorem dX3_chargesIn_25 : decode cX3_chargesIn 25 = .ok (.istore_n 2, 1) := by decide +kernel
theorem dX3_chargesIn_26 : decode cX3_chargesIn 26 = .ok (.iload_n 2, 1) := by decide +kernel
theorem dX3_chargesIn_27 : decode cX3_chargesIn 27 = .ok (.iload_n 1, 1) := by decide +kernel
theorem dX3_chargesIn_28 : decode cX3_chargesIn 28 = .ok (.if_icmp .ge 17, 3) := by decide +kernel
theorem dX3_chargesIn_31 : decode cX3_chargesIn 31 = .ok (.aload_n 0, 1) := by decide +kernel
theorem dX3_chargesIn_32 : decode cX3_chargesIn 32 = .ok (.getfield 19, 3) := by decide +kernel
theorem dX3_chargesIn_35 : decode cX3_chargesIn 35 = .ok (.invokevirtual 186, 3) := by decide +kernel
theorem dX3_chargesIn_38 : decode cX3_chargesIn 38 = .ok (.pop, 1) := by decide +kernel
theorem dX3_chargesIn_39 : decode cX3_chargesIn 39 = .ok (.iinc 2 1, 3) := by decide +kernel
theorem dX3_chargesIn_42 : decode cX3_chargesIn 42 = .ok (.goto (-16), 3) := by decide +kernel
theorem dX3_chargesIn_45 : decode cX3_chargesIn 45 = .ok (.aload_n 0, 1) := by decide +kernel
theorem dX3_chargesIn_46 : decode cX3_chargesIn 46 = .ok (.getfield 19, 3) := by decide +kernel
theorem dX3_chargesIn_49 : decode cX3_chargesIn 49 = .ok (.getfield 129, 3) := by decide +kernel
theorem dX3_chargesIn_52 : decode cX3_chargesIn 52 = .ok (.invokestatic 142, 3) := by decide +kernel
theorem dX3_chargesIn_55 : decode cX3_chargesIn 55 = .ok (.aload_n 0, 1) := by decide +kernel
theorem dX3_chargesIn_56 : decode cX3_chargesIn 56 = .ok (.getfield 12, 3) := by decide +kernel
theorem dX3_chargesIn_59 : decode cX3_chargesIn 59 = .ok (.getfield 129, 3) := by decide +kernel
theorem dX3_chargesIn_62 : decode cX3_chargesIn 62 = .ok (.invokestatic 142, 3) := by decide +kernel
theorem dX3_chargesIn_65 : decode cX3_chargesIn 65 = .ok (.isub, 1) := by decide +kernel
theorem dX3_chargesIn_66 : decode cX3_chargesIn 66 = .ok (.ireturn, 1) := by decide +kernel
set_option maxRecDepth 20000 in
theorem ggX3_append_X3_isWithin : GoodIn wsX3_append wsX3_isWithin := goodIn_r _ [5] (by decide +kernel) (by decide +kernel)
set_option maxRecDepth 20000 in
theorem gX3_append_X3_isWithin : GoodIn wsX3_append (va_wsS RX3 59 yX3_isWithin wsX3_isWithin) := goodIn_app (goodIn_of _ (by decide +kernel)) ggX3_append_X3_isWithin
set_option maxRecDepth 20000 in
theorem ggX3_append_X2_isFull : GoodIn wsX3_append wsX2_isFull := goodIn_r _ [10, 11, 25, 26] (by decide +kernel) (by decide +kernel)
set_option maxRecDepth 20000 in
theorem gX3_append_X2_isFull : GoodIn wsX3_append (wsV RX3 189 RX2 yX2_isFull wsX2_isFull) := goodIn_app (goodIn_of _ (by decide +kernel)) ggX3_append_X2_isFull
set_option maxRecDepth 20000 in
theorem ggX3_append_X2_add : GoodIn wsX3_append wsX2_add := goodIn_r _ [15, 11, 16, 25, 26] (by decide +kernel) (by decide +kernel)
set_option maxRecDepth 20000 in
theorem gX3_append_X2_add : GoodIn wsX3_append (wsV RX3 192 RX2 yX2_add wsX2_add) := goodIn_app (goodIn_of _ (by decide +kernel)) ggX3_append_X2_add
theorem dX3_append_0 : decode cX3_append 0 = .ok (.iload_n 1, 1) := by decide +kernel
theorem dX3_append_1 : decode cX3_append 1 = .ok (.bipush 33, 2) := by decide +kernel
theorem dX3_append_3 : decode cX3_append 3 = .ok (.bipush 126, 2) := by decide +kernel
theorem dX3_append_5 : decode cX3_append 5 = .ok (.invokestatic 59, 3) := by decide +kernel
theorem dX3_append_8 : decode cX3_append 8 = .ok (.ifCond .ne 6, 3) := by decide +kernel
theorem dX3_append_11 : decode cX3_append 11 = .ok (.bipush (-2), 2) := by decide +kernel
theorem dX3_append_13 : decode cX3_append 13 = .ok (.ireturn, 1) := by decide +kernel
theorem dX3_append_14 : decode cX3_append 14 = .ok (.aload_n 0, 1) := by decide +kernel
theorem dX3_append_15 : decode cX3_append 15 = .ok (.getfield 32, 3) := by decide +kernel
theorem dX3_append_18 : decode cX3_append 18 = .ok (.invokevirtual 189, 3) := by decide +kernel
theorem dX3_append_21 : decode cX3_append 21 = .ok (.ifCond .eq 6, 3) := by decide +kernel
theorem dX3_append_24 : decode cX3_append 24 = .ok (.bipush (-4), 2) := by decide +kernel
theorem dX3_append_26 : decode cX3_append 26 = .ok (.ireturn, 1) := by decide +kernel
theorem dX3_append_27 : decode cX3_append 27 = .ok (.aload_n 0, 1) := by decide +kernel
theorem dX3_append_28 : decode cX3_append 28 = .ok (.getfield 32, 3) := by decide +kernel
theorem dX3_append_31 : decode cX3_append 31 = .ok (.iload_n 1, 1) := by decide +kernel
theorem dX3_append_32 : decode cX3_append 32 = .ok (.i2c, 1) := by decide +kernel
theorem dX3_append_33 : decode cX3_append 33 = .ok (.invokevirtual 192, 3) := by decide +kernel
theorem dX3_append_36 : decode cX3_append 36 = .ok (.ireturn, 1) := by decide +kernel
set_option maxRecDepth 20000 in
theorem ggX3_clearText_X2_empty : GoodIn wsX3_clearText wsX2_empty := goodIn_r _ [6, 7, 16, 17] (by decide +kernel) (by decide +kernel)
set_option maxRecDepth 20000 in
theorem gX3_clearText_X2_empty : GoodIn wsX3_clearText (wsV RX3 196 RX2 yX2_empty wsX2_empty) := goodIn_app (goodIn_of _ (by decide +kernel)) ggX3_clearText_X2_empty
theorem dX3_clearText_0 : decode cX3_clearText 0 = .ok (.aload_n 0, 1) := by decide +kernel
theorem dX3_clearText_1 : decode cX3_clearText 1 = .ok (.getfield 32, 3) := by decide +kernel
theorem dX3_clearText_4 : decode cX3_clearText 4 = .ok (.invokevirtual 196, 3) := by decide +kernel
theorem dX3_clearText_7 : decode cX3_clearText 7 = .ok (.ireturn, 1) := by decide +kernel
set_option maxRecDepth 20000 in
theorem ggX3_errorPosition_X2_firstError : GoodIn wsX3_errorPosition wsX2_firstError := goodIn_r _ [6, 7, 8, 9, 10, 5, 11, 12, 13, 14, 15, 16, 17, 18, 19, 20, 21, 22, 23, 24, 25, 26, 27, 28, 29, 30, 31, 32, 33, 34, 35, 36, 45, 46] (by decide +kernel) (by decide +kernel)
set_option maxRecDepth 20000 in
theorem gX3_errorPosition_X2_firstError : GoodIn wsX3_errorPosition (wsV RX3 199 RX2 yX2_firstError wsX2_firstError) := goodIn_app (goodIn_of _ (by decide +kernel)) ggX3_errorPosition_X2_firstError
theorem dX3_errorPosition_0 : decode cX3_errorPosition 0 = .ok (.aload_n 0, 1) := by decide +kernel
theorem dX3_errorPosition_1 : decode cX3_errorPosition 1 = .ok (.getfield 32, 3) := by decide +kernel
theorem dX3_errorPosition_4 : decode cX3_errorPosition 4 = .ok (.invokevirtual 199, 3) := by decide +kernel
theorem dX3_errorPosition_7 : decode cX3_errorPosition 7 = .ok (.ireturn, 1) := by decide +kernel
set_option maxRecDepth 20000 in
theorem ggX3_execute_X2_firstError : GoodIn wsX3_execute wsX2_firstError := goodIn_r _ [9, 10, 11, 12, 13, 8, 14, 15, 16, 17, 18, 19, 20, 21, 22, 23, 24, 25, 26, 27, 28, 29, 30, 31, 32, 33, 34, 35, 36, 37, 38, 39, 251, 252] (by decide +kernel) (by decide +kernel)
set_option maxRecDepth 20000 in
theorem gX3_execute_X2_firstError : GoodIn wsX3_execute (wsV RX3 199 RX2 yX2_firstError wsX2_firstError) := goodIn_app (goodIn_of _ (by decide +kernel)) ggX3_execute_X2_firstError
set_option maxRecDepth 20000 in
theorem ggX3_execute_X0_prepare : GoodIn wsX3_execute wsX0_prepare := goodIn_r _ [44, 45, 46, 47, 48, 49, 50, 51, 52, 53, 54, 55, 56, 57, 58, 59, 60, 61, 62, 63, 64, 65, 66, 67, 68, 69, 70, 253, 254, 255, 256, 257, 258, 259, 260, 261, 262, 263, 264, 265, 266, 267, 268, 269] (by decide +kernel) (by decide +kernel)
set_option maxRecDepth 20000 in
theorem gX3_execute_X0_prepare : GoodIn wsX3_execute (wsV RX3 47 RX0 yX0_prepare wsX0_prepare) := goodIn_app (goodIn_of _ (by decide +kernel)) ggX3_execute_X0_prepare
set_option maxRecDepth 20000 in
theorem ggX3_execute_X2_isStartOfCommand : GoodIn wsX3_execute wsX2_isStartOfCommand := goodIn_r _ [74, 11, 12, 13, 8, 14, 10, 15, 16, 17, 18, 251, 252] (by decide +kernel) (by decide +kernel)
set_option maxRecDepth 20000 in
theorem gX3_execute_X2_isStartOfCommand : GoodIn wsX3_execute (wsV RX3 205 RX2 yX2_isStartOfCommand wsX2_isStartOfCommand) := goodIn_app (goodIn_of _ (by decide +kernel)) ggX3_execute_X2_isStartOfCommand
set_option maxRecDepth 20000 in
theorem ggX3_execute_X3_executeCommand : GoodIn wsX3_execute wsX3_executeCommand := goodIn_r _ [78, 1, 79, 12, 13, 8, 14, 10, 15, 16, 17, 18, 80, 81, 82, 83, 11, 84, 85, 86, 87, 31, 32, 33, 88, 89, 90, 91, 3, 92, 93, 94, 95, 96, 97, 98, 99, 100, 51, 101, 102, 103, 104, 105, 62, 106, 107, 108, 109, 53, 110, 111, 112, 113, 114, 115, 116, 117, 66, 57, 118, 119, 120, 121, 122, 123, 124, 125, 126, 127, 128, 129, 130, 131, 132, 133, 134, 135, 63, 64, 65, 136, 137, 138, 139, 140, 141, 142, 143, 144, 145, 146, 147, 148, 149, 150, 151, 152, 153, 154, 155, 156, 54, 157, 158, 159, 160, 161, 162, 163, 164, 165, 166, 167, 168, 169, 170, 171, 172, 173, 174, 175, 176, 177, 178, 179, 180, 181, 182, 183, 184, 185, 186, 187, 188, 189, 190, 191, 192, 193, 194, 195, 196, 197, 198, 199, 200, 201, 202, 203, 204, 205, 206, 207, 208, 209, 210, 211, 212, 213, 214, 67, 215, 216, 217, 218, 68, 70, 219, 220, 221, 222, 223, 224, 225, 226, 227, 243, 244, 245, 246, 247, 248, 249, 250, 251, 252, 256, 257, 258, 259, 260, 261, 262, 263, 264, 265, 266, 267, 268, 269] (by decide +kernel) (by decide +kernel)
set_option maxRecDepth 20000 in
theorem gX3_execute_X3_executeCommand : GoodIn wsX3_execute (wsV RX3 208 RX3 yX3_executeCommand wsX3_executeCommand) := goodIn_app (goodIn_of _ (by decide +kernel)) ggX3_execute_X3_executeCommand
set_option maxRecDepth 20000 in
theorem ggX3_execute_X3_isError : GoodIn wsX3_execute wsX3_isError := goodIn_r _ [230, 94, 16, 17, 18] (by decide +kernel) (by decide +kernel)
set_option maxRecDepth 20000 in
theorem gX3_execute_X3_isError : GoodIn wsX3_execute (va_wsS RX3 211 yX3_isError wsX3_isError) := goodIn_app (goodIn_of _ (by decide +kernel)) ggX3_execute_X3_isError
set_option maxRecDepth 20000 in
theorem ggX3_execute_X2_empty : GoodIn wsX3_execute wsX2_empty := goodIn_r _ [234, 10, 251, 252] (by decide +kernel) (by decide +kernel)
set_option maxRecDepth 20000 in
theorem gX3_execute_X2_empty : GoodIn wsX3_execute (wsV RX3 196 RX2 yX2_empty wsX2_empty) := goodIn_app (goodIn_of _ (by decide +kernel)) ggX3_execute_X2_empty
set_option maxRecDepth 20000 in
theorem ggX3_execute_X3_recorded : GoodIn wsX3_execute wsX3_recorded := goodIn_r _ [238, 2, 228, 229, 17, 230, 94, 16, 18, 239, 240, 241, 43, 242, 47, 46, 243, 244, 245, 246, 247, 248, 249, 250, 253, 254, 255] (by decide +kernel) (by decide +kernel)
set_option maxRecDepth 20000 in
theorem gX3_execute_X3_recorded : GoodIn wsX3_execute (wsV RX3 55 RX3 yX3_recorded wsX3_recorded) := goodIn_app (goodIn_of _ (by decide +kernel)) ggX3_execute_X3_recorded
theorem dX3_execute_0 : decode cX3_execute 0 = .ok (.aload_n 0, 1) := by decide +kernel
theorem dX3_execute_1 : decode cX3_execute 1 = .ok (.getfield 32, 3) := by decide +kernel
theorem dX3_execute_4 : decode cX3_execute 4 = .ok (.invokevirtual 199, 3) := by decide +kernel
theorem dX3_execute_7 : decode cX3_execute 7 = .ok (.bipush (-6), 2) := by decide +kernel
theorem dX3_execute_9 : decode cX3_execute 9 = .ok (.if_icmp .eq 6, 3) := by decide +kernel
theorem dX3_execute_12 : decode cX3_execute 12 = .ok (.bipush (-5), 2) := by decide +kernel
theorem dX3_execute_14 : decode cX3_execute 14 = .ok (.ireturn, 1) := by decide +kernel
theorem dX3_execute_15 : decode cX3_execute 15 = .ok (.aload_n 0, 1) := by decide +kernel
theorem dX3_execute_16 : decode cX3_execute 16 = .ok (.getfield 25, 3) := by decide +kernel
theorem dX3_execute_19 : decode cX3_execute 19 = .ok (.aload_n 0, 1) := by decide +kernel
theorem dX3_execute_20 : decode cX3_execute 20 = .ok (.getfield 12, 3) := by decide +kernel
theorem dX3_execute_23 : decode cX3_execute 23 = .ok (.invokevirtual 47, 3) := by decide +kernel
theorem dX3_execute_26 : decode cX3_execute 26 = .ok (.iconst 0, 1) := by decide +kernel
theorem dX3_execute_27 : decode cX3_execute 27 = .ok (.istore_n 1, 1) := by decide +kernel
theorem dX3_execute_28 : decode cX3_execute 28 = .ok (.iconst 0, 1) := by decide +kernel
theorem dX3_execute_29 : decode cX3_execute 29 = .ok (.istore_n 2, 1) := by decide +kernel
theorem dX3_execute_30 : decode cX3_execute 30 = .ok (.iload_n 2, 1) := by decide +kernel
theorem dX3_execute_31 : decode cX3_execute 31 = .ok (.aload_n 0, 1) := by decide +kernel
theorem dX3_execute_32 : decode cX3_execute 32 = .ok (.getfield 32, 3) := by decide +kernel
theorem dX3_execute_35 : decode cX3_execute 35 = .ok (.getfield 202, 3) := by decide +kernel
theorem dX3_execute_38 : decode cX3_execute 38 = .ok (.if_icmp .ge 37, 3) := by decide +kernel
theorem dX3_execute_41 : decode cX3_execute 41 = .ok (.aload_n 0, 1) := by decide +kernel
theorem dX3_execute_42 : decode cX3_execute 42 = .ok (.getfield 32, 3) := by decide +kernel
theorem dX3_execute_45 : decode cX3_execute 45 = .ok (.iload_n 2, 1) := by decide +kernel
theorem dX3_execute_46 : decode cX3_execute 46 = .ok (.invokevirtual 205, 3) := by decide +kernel
theorem dX3_execute_49 : decode cX3_execute 49 = .ok (.ifCond .eq 20, 3) := by decide +kernel
theorem dX3_execute_52 : decode cX3_execute 52 = .ok (.aload_n 0, 1) := by decide +kernel
theorem dX3_execute_53 : decode cX3_execute 53 = .ok (.iload_n 2, 1) := by decide +kernel
theorem dX3_execute_54 : decode cX3_execute 54 = .ok (.invokevirtual 208, 3) := by decide +kernel
theorem dX3_execute_57 : decode cX3_execute 57 = .ok (.invokestatic 211, 3) := by decide +kernel
theorem dX3_execute_60 : decode cX3_execute 60 = .ok (.ifCond .eq 6, 3) := by decide +kernel
theorem dX3_execute_63 : decode cX3_execute 63 = .ok (.goto 12, 3) := by decide +kernel
theorem dX3_execute_66 : decode cX3_execute 66 = .ok (.iinc 1 1, 3) := by decide +kernel
theorem dX3_execute_69 : decode cX3_execute 69 = .ok (.iinc 2 1, 3) := by decide +kernel
theorem dX3_execute_72 : decode cX3_execute 72 = .ok (.goto (-42), 3) := by decide +kernel
theorem dX3_execute_75 : decode cX3_execute 75 = .ok (.aload_n 0, 1) := by decide +kernel
theorem dX3_execute_76 : decode cX3_execute 76 = .ok (.getfield 32, 3) := by decide +kernel
theorem dX3_execute_79 : decode cX3_execute 79 = .ok (.invokevirtual 196, 3) := by decide +kernel
theorem dX3_execute_82 : decode cX3_execute 82 = .ok (.pop, 1) := by decide +kernel
theorem dX3_execute_83 : decode cX3_execute 83 = .ok (.aload_n 0, 1) := by decide +kernel
theorem dX3_execute_84 : decode cX3_execute 84 = .ok (.iload_n 1, 1) := by decide +kernel
theorem dX3_execute_85 : decode cX3_execute 85 = .ok (.invokevirtual 55, 3) := by decide +kernel
theorem dX3_execute_88 : decode cX3_execute 88 = .ok (.ireturn, 1) := by decide +kernel
set_option maxRecDepth 20000 in
theorem ggX3_undo_X0_takeBack : GoodIn wsX3_undo wsX0_takeBack := goodIn_r _ [8, 9, 10, 11, 12, 13, 14, 15, 16, 17, 18, 19, 20, 21, 22, 23, 24, 25, 26, 27, 28, 29, 30, 31, 32, 33, 34, 43, 44, 45, 46, 47, 48, 49, 50, 51, 52, 53, 54, 55, 56, 57, 58, 59] (by decide +kernel) (by decide +kernel)
set_option maxRecDepth 20000 in
theorem gX3_undo_X0_takeBack : GoodIn wsX3_undo (wsV RX3 217 RX0 yX0_takeBack wsX0_takeBack) := goodIn_app (goodIn_of _ (by decide +kernel)) ggX3_undo_X0_takeBack
theorem dX3_undo_0 : decode cX3_undo 0 = .ok (.aload_n 0, 1) := by decide +kernel
theorem dX3_undo_1 : decode cX3_undo 1 = .ok (.getfield 25, 3) := by decide +kernel
theorem dX3_undo_4 : decode cX3_undo 4 = .ok (.getfield 214, 3) := by decide +kernel
theorem dX3_undo_7 : decode cX3_undo 7 = .ok (.ifCond .ne 6, 3) := by decide +kernel
theorem dX3_undo_10 : decode cX3_undo 10 = .ok (.bipush (-3), 2) := by decide +kernel
theorem dX3_undo_12 : decode cX3_undo 12 = .ok (.ireturn, 1) := by decide +kernel
theorem dX3_undo_13 : decode cX3_undo 13 = .ok (.aload_n 0, 1) := by decide +kernel
theorem dX3_undo_14 : decode cX3_undo 14 = .ok (.getfield 25, 3) := by decide +kernel
theorem dX3_undo_17 : decode cX3_undo 17 = .ok (.aload_n 0, 1) := by decide +kernel
theorem dX3_undo_18 : decode cX3_undo 18 = .ok (.getfield 12, 3) := by decide +kernel
theorem dX3_undo_21 : decode cX3_undo 21 = .ok (.invokevirtual 217, 3) := by decide +kernel
theorem dX3_undo_24 : decode cX3_undo 24 = .ok (.ireturn, 1) := by decide +kernel
set_option maxRecDepth 20000 in
theorem ggX3_save_X1_copyFrom : GoodIn wsX3_save wsX1_copyFrom := goodIn_r _ [8, 9, 10, 11, 12, 13, 14, 15, 16, 17, 18, 19, 20, 21, 22, 23, 24, 25, 26, 47, 48, 49, 50, 51, 52, 53, 54, 55, 56, 57, 58, 59, 60] (by decide +kernel) (by decide +kernel)
set_option maxRecDepth 20000 in
theorem gX3_save_X1_copyFrom : GoodIn wsX3_save (wsV RX3 183 RX1 yX1_copyFrom wsX1_copyFrom) := goodIn_app (goodIn_of _ (by decide +kernel)) ggX3_save_X1_copyFrom
set_option maxRecDepth 20000 in
theorem ggX3_save_X1_parcelsOnShelves : GoodIn wsX3_save wsX1_parcelsOnShelves := goodIn_r _ [30, 31, 32, 33, 7, 34, 35, 36, 37, 38, 18, 47, 48, 49, 50, 51, 52, 53, 54, 55, 56, 57, 58, 59, 60] (by decide +kernel) (by decide +kernel)
set_option maxRecDepth 20000 in
theorem gX3_save_X1_parcelsOnShelves : GoodIn wsX3_save (wsV RX3 138 RX1 yX1_parcelsOnShelves wsX1_parcelsOnShelves) := goodIn_app (goodIn_of _ (by decide +kernel)) ggX3_save_X1_parcelsOnShelves
theorem dX3_save_0 : decode cX3_save 0 = .ok (.aload_n 0, 1) := by decide +kernel
theorem dX3_save_1 : decode cX3_save 1 = .ok (.getfield 16, 3) := by decide +kernel
theorem dX3_save_4 : decode cX3_save 4 = .ok (.aload_n 0, 1) := by decide +kernel
theorem dX3_save_5 : decode cX3_save 5 = .ok (.getfield 12, 3) := by decide +kernel
theorem dX3_save_8 : decode cX3_save 8 = .ok (.invokevirtual 183, 3) := by decide +kernel
theorem dX3_save_11 : decode cX3_save 11 = .ok (.aload_n 0, 1) := by decide +kernel
theorem dX3_save_12 : decode cX3_save 12 = .ok (.iconst 1, 1) := by decide +kernel
theorem dX3_save_13 : decode cX3_save 13 = .ok (.putfield 36, 3) := by decide +kernel
theorem dX3_save_16 : decode cX3_save 16 = .ok (.aload_n 0, 1) := by decide +kernel
theorem dX3_save_17 : decode cX3_save 17 = .ok (.getfield 12, 3) := by decide +kernel
theorem dX3_save_20 : decode cX3_save 20 = .ok (.invokevirtual 138, 3) := by decide +kernel
theorem dX3_save_23 : decode cX3_save 23 = .ok (.ireturn, 1) := by decide +kernel
set_option maxRecDepth 20000 in
theorem ggX3_restore_X0_prepare : GoodIn wsX3_restore wsX0_prepare := goodIn_r _ [9, 10, 11, 12, 13, 14, 15, 16, 17, 18, 19, 20, 21, 22, 23, 24, 25, 26, 27, 28, 29, 30, 31, 32, 33, 34, 35, 72, 73, 74, 75, 76, 77, 78, 79, 80, 81, 82, 83, 84, 85, 86, 87, 88] (by decide +kernel) (by decide +kernel)
set_option maxRecDepth 20000 in
theorem gX3_restore_X0_prepare : GoodIn wsX3_restore (wsV RX3 47 RX0 yX0_prepare wsX0_prepare) := goodIn_app (goodIn_of _ (by decide +kernel)) ggX3_restore_X0_prepare
set_option maxRecDepth 20000 in
theorem ggX3_restore_X1_copyFrom : GoodIn wsX3_restore wsX1_copyFrom := goodIn_r _ [17, 18, 19, 20, 21, 22, 23, 24, 25, 26, 27, 28, 29, 30, 31, 32, 33, 34, 35, 75, 76, 77, 78, 79, 80, 81, 82, 83, 84, 85, 86, 87, 88] (by decide +kernel) (by decide +kernel)
set_option maxRecDepth 20000 in
theorem gX3_restore_X1_copyFrom : GoodIn wsX3_restore (wsV RX3 183 RX1 yX1_copyFrom wsX1_copyFrom) := goodIn_app (goodIn_of _ (by decide +kernel)) ggX3_restore_X1_copyFrom
set_option maxRecDepth 20000 in
theorem ggX3_restore_X1_parcelsOnShelves : GoodIn wsX3_restore wsX1_parcelsOnShelves := goodIn_r _ [40, 41, 42, 43, 16, 44, 45, 46, 47, 48, 27, 75, 76, 77, 78, 79, 80, 81, 82, 83, 84, 85, 86, 87, 88] (by decide +kernel) (by decide +kernel)
set_option maxRecDepth 20000 in
theorem gX3_restore_X1_parcelsOnShelves : GoodIn wsX3_restore (wsV RX3 138 RX1 yX1_parcelsOnShelves wsX1_parcelsOnShelves) := goodIn_app (goodIn_of _ (by decide +kernel)) ggX3_restore_X1_parcelsOnShelves
set_option maxRecDepth 20000 in
theorem ggX3_restore_X3_recorded : GoodIn wsX3_restore wsX3_recorded := goodIn_r _ [53, 2, 54, 55, 52, 56, 57, 58, 59, 60, 61, 62, 8, 63, 12, 11, 64, 65, 66, 67, 68, 69, 70, 71, 72, 73, 74] (by decide +kernel) (by decide +kernel)
set_option maxRecDepth 20000 in
theorem gX3_restore_X3_recorded : GoodIn wsX3_restore (wsV RX3 55 RX3 yX3_recorded wsX3_recorded) := goodIn_app (goodIn_of _ (by decide +kernel)) ggX3_restore_X3_recorded
theorem dX3_restore_0 : decode cX3_restore 0 = .ok (.aload_n 0, 1) := by decide +kernel
theorem dX3_restore_1 : decode cX3_restore 1 = .ok (.getfield 36, 3) := by decide +kernel
theorem dX3_restore_4 : decode cX3_restore 4 = .ok (.ifCond .ne 6, 3) := by decide +kernel
theorem dX3_restore_7 : decode cX3_restore 7 = .ok (.bipush (-3), 2) := by decide +kernel
theorem dX3_restore_9 : decode cX3_restore 9 = .ok (.ireturn, 1) := by decide +kernel
theorem dX3_restore_10 : decode cX3_restore 10 = .ok (.aload_n 0, 1) := by decide +kernel
theorem dX3_restore_11 : decode cX3_restore 11 = .ok (.getfield 25, 3) := by decide +kernel
theorem dX3_restore_14 : decode cX3_restore 14 = .ok (.aload_n 0, 1) := by decide +kernel
theorem dX3_restore_15 : decode cX3_restore 15 = .ok (.getfield 12, 3) := by decide +kernel
theorem dX3_restore_18 : decode cX3_restore 18 = .ok (.invokevirtual 47, 3) := by decide +kernel
theorem dX3_restore_21 : decode cX3_restore 21 = .ok (.aload_n 0, 1) := by decide +kernel
theorem dX3_restore_22 : decode cX3_restore 22 = .ok (.getfield 12, 3) := by decide +kernel
theorem dX3_restore_25 : decode cX3_restore 25 = .ok (.aload_n 0, 1) := by decide +kernel
theorem dX3_restore_26 : decode cX3_restore 26 = .ok (.getfield 16, 3) := by decide +kernel
theorem dX3_restore_29 : decode cX3_restore 29 = .ok (.invokevirtual 183, 3) := by decide +kernel
theorem dX3_restore_32 : decode cX3_restore 32 = .ok (.aload_n 0, 1) := by decide +kernel
theorem dX3_restore_33 : decode cX3_restore 33 = .ok (.aload_n 0, 1) := by decide +kernel
theorem dX3_restore_34 : decode cX3_restore 34 = .ok (.getfield 12, 3) := by decide +kernel
theorem dX3_restore_37 : decode cX3_restore 37 = .ok (.invokevirtual 138, 3) := by decide +kernel
theorem dX3_restore_40 : decode cX3_restore 40 = .ok (.invokevirtual 55, 3) := by decide +kernel
theorem dX3_restore_43 : decode cX3_restore 43 = .ok (.ireturn, 1) := by decide +kernel
set_option maxRecDepth 20000 in
theorem ggX3_changeSetting_X3_isWithin : GoodIn wsX3_changeSetting wsX3_isWithin := goodIn_r _ [8] (by decide +kernel) (by decide +kernel)
set_option maxRecDepth 20000 in
theorem gX3_changeSetting_X3_isWithin : GoodIn wsX3_changeSetting (va_wsS RX3 59 yX3_isWithin wsX3_isWithin) := goodIn_app (goodIn_of _ (by decide +kernel)) ggX3_changeSetting_X3_isWithin
theorem dX3_changeSetting_0 : decode cX3_changeSetting 0 = .ok (.iload_n 1, 1) := by decide +kernel
theorem dX3_changeSetting_1 : decode cX3_changeSetting 1 = .ok (.iconst 0, 1) := by decide +kernel
theorem dX3_changeSetting_2 : decode cX3_changeSetting 2 = .ok (.iconst 4, 1) := by decide +kernel
theorem dX3_changeSetting_3 : decode cX3_changeSetting 3 = .ok (.invokestatic 59, 3) := by decide +kernel
theorem dX3_changeSetting_6 : decode cX3_changeSetting 6 = .ok (.ifCond .ne 6, 3) := by decide +kernel
theorem dX3_changeSetting_9 : decode cX3_changeSetting 9 = .ok (.bipush (-2), 2) := by decide +kernel
theorem dX3_changeSetting_11 : decode cX3_changeSetting 11 = .ok (.ireturn, 1) := by decide +kernel
theorem dX3_changeSetting_12 : decode cX3_changeSetting 12 = .ok (.iload_n 2, 1) := by decide +kernel
theorem dX3_changeSetting_13 : decode cX3_changeSetting 13 = .ok (.getstatic 221, 3) := by decide +kernel
theorem dX3_changeSetting_16 : decode cX3_changeSetting 16 = .ok (.iload_n 1, 1) := by decide +kernel
theorem dX3_changeSetting_17 : decode cX3_changeSetting 17 = .ok (.iaload, 1) := by decide +kernel
theorem dX3_changeSetting_18 : decode cX3_changeSetting 18 = .ok (.getstatic 224, 3) := by decide +kernel
theorem dX3_changeSetting_21 : decode cX3_changeSetting 21 = .ok (.iload_n 1, 1) := by decide +kernel
theorem dX3_changeSetting_22 : decode cX3_changeSetting 22 = .ok (.iaload, 1) := by decide +kernel
theorem dX3_changeSetting_23 : decode cX3_changeSetting 23 = .ok (.invokestatic 59, 3) := by decide +kernel
theorem dX3_changeSetting_26 : decode cX3_changeSetting 26 = .ok (.ifCond .ne 6, 3) := by decide +kernel
theorem dX3_changeSetting_29 : decode cX3_changeSetting 29 = .ok (.bipush (-2), 2) := by decide +kernel
theorem dX3_changeSetting_31 : decode cX3_changeSetting 31 = .ok (.ireturn, 1) := by decide +kernel
theorem dX3_changeSetting_32 : decode cX3_changeSetting 32 = .ok (.aload_n 0, 1) := by decide +kernel
theorem dX3_changeSetting_33 : decode cX3_changeSetting 33 = .ok (.getfield 12, 3) := by decide +kernel
theorem dX3_changeSetting_36 : decode cX3_changeSetting 36 = .ok (.getfield 63, 3) := by decide +kernel
theorem dX3_changeSetting_39 : decode cX3_changeSetting 39 = .ok (.iload_n 1, 1) := by decide +kernel
theorem dX3_changeSetting_40 : decode cX3_changeSetting 40 = .ok (.iaload, 1) := by decide +kernel
theorem dX3_changeSetting_41 : decode cX3_changeSetting 41 = .ok (.istore_n 3, 1) := by decide +kernel
theorem dX3_changeSetting_42 : decode cX3_changeSetting 42 = .ok (.aload_n 0, 1) := by decide +kernel
theorem dX3_changeSetting_43 : decode cX3_changeSetting 43 = .ok (.getfield 12, 3) := by decide +kernel
theorem dX3_changeSetting_46 : decode cX3_changeSetting 46 = .ok (.getfield 63, 3) := by decide +kernel
theorem dX3_changeSetting_49 : decode cX3_changeSetting 49 = .ok (.iload_n 1, 1) := by decide +kernel
theorem dX3_changeSetting_50 : decode cX3_changeSetting 50 = .ok (.iload_n 2, 1) := by decide +kernel
theorem dX3_changeSetting_51 : decode cX3_changeSetting 51 = .ok (.iastore, 1) := by decide +kernel
theorem dX3_changeSetting_52 : decode cX3_changeSetting 52 = .ok (.iload_n 3, 1) := by decide +kernel
theorem dX3_changeSetting_53 : decode cX3_changeSetting 53 = .ok (.ireturn, 1) := by decide +kernel
set_option maxRecDepth 20000 in
theorem ggX3_letCome_X3_isWithin : GoodIn wsX3_letCome wsX3_isWithin := goodIn_r _ [7] (by decide +kernel) (by decide +kernel)
set_option maxRecDepth 20000 in
theorem gX3_letCome_X3_isWithin : GoodIn wsX3_letCome (va_wsS RX3 59 yX3_isWithin wsX3_isWithin) := goodIn_app (goodIn_of _ (by decide +kernel)) ggX3_letCome_X3_isWithin
set_option maxRecDepth 20000 in
theorem ggX3_letCome_X3_firstShelfFor : GoodIn wsX3_letCome wsX3_firstShelfFor := goodIn_r _ [10] (by decide +kernel) (by decide +kernel)
set_option maxRecDepth 20000 in
theorem gX3_letCome_X3_firstShelfFor : GoodIn wsX3_letCome (va_wsS RX3 177 yX3_firstShelfFor wsX3_firstShelfFor) := goodIn_app (goodIn_of _ (by decide +kernel)) ggX3_letCome_X3_firstShelfFor
set_option maxRecDepth 20000 in
theorem ggX3_letCome_X1_placeToGive : GoodIn wsX3_letCome wsX1_placeToGive := goodIn_r _ [15, 16, 17, 18, 14, 19, 20, 21, 22, 23, 24, 25, 26, 6, 27, 28, 29, 30, 31, 32, 33, 34, 35, 74, 75, 76, 77, 78, 79, 80, 81, 82, 83, 84, 85, 86, 87] (by decide +kernel) (by decide +kernel)
set_option maxRecDepth 20000 in
theorem gX3_letCome_X1_placeToGive : GoodIn wsX3_letCome (wsV RX3 180 RX1 yX1_placeToGive wsX1_placeToGive) := goodIn_app (goodIn_of _ (by decide +kernel)) ggX3_letCome_X1_placeToGive
set_option maxRecDepth 20000 in
theorem ggX3_letCome_X3_refuseForNoPlace : GoodIn wsX3_letCome wsX3_refuseForNoPlace := goodIn_r _ [39, 1, 40, 41, 42, 14, 43, 16, 17, 18, 19, 20, 44, 45, 46, 6, 47, 48, 49, 66, 67, 68, 69, 70, 71, 72, 73, 74, 75, 76, 77, 78, 79, 80, 81, 82, 83, 84, 85, 86, 87] (by decide +kernel) (by decide +kernel)
set_option maxRecDepth 20000 in
theorem gX3_letCome_X3_refuseForNoPlace : GoodIn wsX3_letCome (wsV RX3 227 RX3 yX3_refuseForNoPlace wsX3_refuseForNoPlace) := goodIn_app (goodIn_of _ (by decide +kernel)) ggX3_letCome_X3_refuseForNoPlace
set_option maxRecDepth 20000 in
theorem ggX3_letCome_X1_put : GoodIn wsX3_letCome wsX1_put := goodIn_r _ [53, 20, 25, 54, 55, 56, 26, 6, 27, 74, 75, 76, 77, 78, 79, 80, 81, 82, 83, 84, 85, 86, 87] (by decide +kernel) (by decide +kernel)
set_option maxRecDepth 20000 in
theorem gX3_letCome_X1_put : GoodIn wsX3_letCome (wsV RX3 231 RX1 yX1_put wsX1_put) := goodIn_app (goodIn_of _ (by decide +kernel)) ggX3_letCome_X1_put
set_option maxRecDepth 20000 in
theorem ggX3_letCome_X1_codeOn : GoodIn wsX3_letCome wsX1_codeOn := goodIn_r _ [60, 20, 61, 6, 62, 63, 64, 65, 74, 75, 76, 77, 78, 79, 80, 81, 82, 83, 84, 85, 86, 87] (by decide +kernel) (by decide +kernel)
set_option maxRecDepth 20000 in
theorem gX3_letCome_X1_codeOn : GoodIn wsX3_letCome (wsV RX3 111 RX1 yX1_codeOn wsX1_codeOn) := goodIn_app (goodIn_of _ (by decide +kernel)) ggX3_letCome_X1_codeOn
theorem dX3_letCome_0 : decode cX3_letCome 0 = .ok (.iload_n 1, 1) := by decide +kernel
theorem dX3_letCome_1 : decode cX3_letCome 1 = .ok (.iconst 0, 1) := by decide +kernel
theorem dX3_letCome_2 : decode cX3_letCome 2 = .ok (.bipush 9, 2) := by decide +kernel
theorem dX3_letCome_4 : decode cX3_letCome 4 = .ok (.invokestatic 59, 3) := by decide +kernel
theorem dX3_letCome_7 : decode cX3_letCome 7 = .ok (.ifCond .ne 5, 3) := by decide +kernel
theorem dX3_letCome_10 : decode cX3_letCome 10 = .ok (.iconst (-1), 1) := by decide +kernel
theorem dX3_letCome_11 : decode cX3_letCome 11 = .ok (.ireturn, 1) := by decide +kernel
theorem dX3_letCome_12 : decode cX3_letCome 12 = .ok (.iload_n 2, 1) := by decide +kernel
theorem dX3_letCome_13 : decode cX3_letCome 13 = .ok (.iconst 0, 1) := by decide +kernel
theorem dX3_letCome_14 : decode cX3_letCome 14 = .ok (.iconst 2, 1) := by decide +kernel
theorem dX3_letCome_15 : decode cX3_letCome 15 = .ok (.invokestatic 59, 3) := by decide +kernel
theorem dX3_letCome_18 : decode cX3_letCome 18 = .ok (.ifCond .ne 6, 3) := by decide +kernel
theorem dX3_letCome_21 : decode cX3_letCome 21 = .ok (.bipush (-2), 2) := by decide +kernel
theorem dX3_letCome_23 : decode cX3_letCome 23 = .ok (.ireturn, 1) := by decide +kernel
theorem dX3_letCome_24 : decode cX3_letCome 24 = .ok (.aload_n 0, 1) := by decide +kernel
theorem dX3_letCome_25 : decode cX3_letCome 25 = .ok (.getfield 12, 3) := by decide +kernel
theorem dX3_letCome_28 : decode cX3_letCome 28 = .ok (.iload_n 2, 1) := by decide +kernel
theorem dX3_letCome_29 : decode cX3_letCome 29 = .ok (.invokestatic 177, 3) := by decide +kernel
theorem dX3_letCome_32 : decode cX3_letCome 32 = .ok (.iconst 5, 1) := by decide +kernel
theorem dX3_letCome_33 : decode cX3_letCome 33 = .ok (.invokevirtual 180, 3) := by decide +kernel
theorem dX3_letCome_36 : decode cX3_letCome 36 = .ok (.istore_n 3, 1) := by decide +kernel
theorem dX3_letCome_37 : decode cX3_letCome 37 = .ok (.iload_n 3, 1) := by decide +kernel
theorem dX3_letCome_38 : decode cX3_letCome 38 = .ok (.iconst (-1), 1) := by decide +kernel
theorem dX3_letCome_39 : decode cX3_letCome 39 = .ok (.if_icmp .ne 15, 3) := by decide +kernel
theorem dX3_letCome_42 : decode cX3_letCome 42 = .ok (.aload_n 0, 1) := by decide +kernel
theorem dX3_letCome_43 : decode cX3_letCome 43 = .ok (.iload_n 2, 1) := by decide +kernel
theorem dX3_letCome_44 : decode cX3_letCome 44 = .ok (.invokestatic 177, 3) := by decide +kernel
theorem dX3_letCome_47 : decode cX3_letCome 47 = .ok (.iconst 5, 1) := by decide +kernel
theorem dX3_letCome_48 : decode cX3_letCome 48 = .ok (.invokevirtual 227, 3) := by decide +kernel
theorem dX3_letCome_51 : decode cX3_letCome 51 = .ok (.bipush (-4), 2) := by decide +kernel
theorem dX3_letCome_53 : decode cX3_letCome 53 = .ok (.ireturn, 1) := by decide +kernel
theorem dX3_letCome_54 : decode cX3_letCome 54 = .ok (.aload_n 0, 1) := by decide +kernel
theorem dX3_letCome_55 : decode cX3_letCome 55 = .ok (.getfield 12, 3) := by decide +kernel
theorem dX3_letCome_58 : decode cX3_letCome 58 = .ok (.iload_n 3, 1) := by decide +kernel
theorem dX3_letCome_59 : decode cX3_letCome 59 = .ok (.iload_n 1, 1) := by decide +kernel
theorem dX3_letCome_60 : decode cX3_letCome 60 = .ok (.iload_n 2, 1) := by decide +kernel
theorem dX3_letCome_61 : decode cX3_letCome 61 = .ok (.aload_n 0, 1) := by decide +kernel
theorem dX3_letCome_62 : decode cX3_letCome 62 = .ok (.getfield 12, 3) := by decide +kernel
theorem dX3_letCome_65 : decode cX3_letCome 65 = .ok (.getfield 85, 3) := by decide +kernel
theorem dX3_letCome_68 : decode cX3_letCome 68 = .ok (.invokevirtual 231, 3) := by decide +kernel
theorem dX3_letCome_71 : decode cX3_letCome 71 = .ok (.aload_n 0, 1) := by decide +kernel
theorem dX3_letCome_72 : decode cX3_letCome 72 = .ok (.getfield 12, 3) := by decide +kernel
theorem dX3_letCome_75 : decode cX3_letCome 75 = .ok (.dup, 1) := by decide +kernel
theorem dX3_letCome_76 : decode cX3_letCome 76 = .ok (.getfield 146, 3) := by decide +kernel
theorem dX3_letCome_79 : decode cX3_letCome 79 = .ok (.iconst 1, 1) := by decide +kernel
theorem dX3_letCome_80 : decode cX3_letCome 80 = .ok (.iadd, 1) := by decide +kernel
theorem dX3_letCome_81 : decode cX3_letCome 81 = .ok (.putfield 146, 3) := by decide +kernel
theorem dX3_letCome_84 : decode cX3_letCome 84 = .ok (.aload_n 0, 1) := by decide +kernel
theorem dX3_letCome_85 : decode cX3_letCome 85 = .ok (.getfield 12, 3) := by decide +kernel
theorem dX3_letCome_88 : decode cX3_letCome 88 = .ok (.iload_n 3, 1) := by decide +kernel
theorem dX3_letCome_89 : decode cX3_letCome 89 = .ok (.invokevirtual 111, 3) := by decide +kernel
theorem dX3_letCome_92 : decode cX3_letCome 92 = .ok (.ireturn, 1) := by decide +kernel
set_option maxRecDepth 20000 in
theorem ggX3_letFetch_X3_isWithin : GoodIn wsX3_letFetch wsX3_isWithin := goodIn_r _ [9] (by decide +kernel) (by decide +kernel)
set_option maxRecDepth 20000 in
theorem gX3_letFetch_X3_isWithin : GoodIn wsX3_letFetch (va_wsS RX3 59 yX3_isWithin wsX3_isWithin) := goodIn_app (goodIn_of _ (by decide +kernel)) ggX3_letFetch_X3_isWithin
set_option maxRecDepth 20000 in
theorem ggX3_letFetch_X1_isLocked : GoodIn wsX3_letFetch wsX1_isLocked := goodIn_r _ [14, 15, 63, 64, 65, 66, 67, 68, 69, 70, 71, 72, 73, 74, 75, 76] (by decide +kernel) (by decide +kernel)
set_option maxRecDepth 20000 in
theorem gX3_letFetch_X1_isLocked : GoodIn wsX3_letFetch (wsV RX3 155 RX1 yX1_isLocked wsX1_isLocked) := goodIn_app (goodIn_of _ (by decide +kernel)) ggX3_letFetch_X1_isLocked
set_option maxRecDepth 20000 in
theorem ggX3_letFetch_X3_refuseFor : GoodIn wsX3_letFetch wsX3_refuseFor := goodIn_r _ [19, 20, 21, 55, 56, 57, 58, 59, 60, 61, 62] (by decide +kernel) (by decide +kernel)
set_option maxRecDepth 20000 in
theorem gX3_letFetch_X3_refuseFor : GoodIn wsX3_letFetch (wsV RX3 235 RX3 yX3_refuseFor wsX3_refuseFor) := goodIn_app (goodIn_of _ (by decide +kernel)) ggX3_letFetch_X3_refuseFor
set_option maxRecDepth 20000 in
theorem ggX3_letFetch_X1_placeWith : GoodIn wsX3_letFetch wsX1_placeWith := goodIn_r _ [25, 26, 27, 8, 28, 6, 7, 9, 29, 30, 31, 32, 33, 34, 35, 36, 37, 63, 64, 65, 66, 67, 68, 69, 70, 71, 72, 73, 74, 75, 76] (by decide +kernel) (by decide +kernel)
set_option maxRecDepth 20000 in
theorem gX3_letFetch_X1_placeWith : GoodIn wsX3_letFetch (wsV RX3 88 RX1 yX1_placeWith wsX1_placeWith) := goodIn_app (goodIn_of _ (by decide +kernel)) ggX3_letFetch_X1_placeWith
set_option maxRecDepth 20000 in
theorem ggX3_letFetch_X1_feeAfter : GoodIn wsX3_letFetch wsX1_feeAfter := goodIn_r _ [41, 42, 43, 44, 45, 46, 47, 48, 49, 63, 64, 65, 66, 67, 68, 69, 70, 71, 72, 73, 74, 75, 76] (by decide +kernel) (by decide +kernel)
set_option maxRecDepth 20000 in
theorem gX3_letFetch_X1_feeAfter : GoodIn wsX3_letFetch (wsV RX3 100 RX1 yX1_feeAfter wsX1_feeAfter) := goodIn_app (goodIn_of _ (by decide +kernel)) ggX3_letFetch_X1_feeAfter
set_option maxRecDepth 20000 in
theorem ggX3_letFetch_X1_leave : GoodIn wsX3_letFetch wsX1_leave := goodIn_r _ [53, 26, 54, 42, 36, 8, 37, 63, 64, 65, 66, 67, 68, 69, 70, 71, 72, 73, 74, 75, 76] (by decide +kernel) (by decide +kernel)
set_option maxRecDepth 20000 in
theorem gX3_letFetch_X1_leave : GoodIn wsX3_letFetch (wsV RX3 238 RX1 yX1_leave wsX1_leave) := goodIn_app (goodIn_of _ (by decide +kernel)) ggX3_letFetch_X1_leave
theorem dX3_letFetch_0 : decode cX3_letFetch 0 = .ok (.iload_n 1, 1) := by decide +kernel
theorem dX3_letFetch_1 : decode cX3_letFetch 1 = .ok (.iconst 0, 1) := by decide +kernel
theorem dX3_letFetch_2 : decode cX3_letFetch 2 = .ok (.sipush 9999, 3) := by decide +kernel
theorem dX3_letFetch_5 : decode cX3_letFetch 5 = .ok (.invokestatic 59, 3) := by decide +kernel
theorem dX3_letFetch_8 : decode cX3_letFetch 8 = .ok (.ifCond .ne 6, 3) := by decide +kernel
theorem dX3_letFetch_11 : decode cX3_letFetch 11 = .ok (.bipush (-2), 2) := by decide +kernel
theorem dX3_letFetch_13 : decode cX3_letFetch 13 = .ok (.ireturn, 1) := by decide +kernel
theorem dX3_letFetch_14 : decode cX3_letFetch 14 = .ok (.aload_n 0, 1) := by decide +kernel
theorem dX3_letFetch_15 : decode cX3_letFetch 15 = .ok (.getfield 12, 3) := by decide +kernel
theorem dX3_letFetch_18 : decode cX3_letFetch 18 = .ok (.invokevirtual 155, 3) := by decide +kernel
theorem dX3_letFetch_21 : decode cX3_letFetch 21 = .ok (.ifCond .eq 13, 3) := by decide +kernel
theorem dX3_letFetch_24 : decode cX3_letFetch 24 = .ok (.aload_n 0, 1) := by decide +kernel
theorem dX3_letFetch_25 : decode cX3_letFetch 25 = .ok (.iconst 2, 1) := by decide +kernel
theorem dX3_letFetch_26 : decode cX3_letFetch 26 = .ok (.bipush (-6), 2) := by decide +kernel
theorem dX3_letFetch_28 : decode cX3_letFetch 28 = .ok (.invokevirtual 235, 3) := by decide +kernel
theorem dX3_letFetch_31 : decode cX3_letFetch 31 = .ok (.bipush (-3), 2) := by decide +kernel
theorem dX3_letFetch_33 : decode cX3_letFetch 33 = .ok (.ireturn, 1) := by decide +kernel
theorem dX3_letFetch_34 : decode cX3_letFetch 34 = .ok (.aload_n 0, 1) := by decide +kernel
theorem dX3_letFetch_35 : decode cX3_letFetch 35 = .ok (.getfield 12, 3) := by decide +kernel
theorem dX3_letFetch_38 : decode cX3_letFetch 38 = .ok (.iload_n 1, 1) := by decide +kernel
theorem dX3_letFetch_39 : decode cX3_letFetch 39 = .ok (.invokevirtual 88, 3) := by decide +kernel
theorem dX3_letFetch_42 : decode cX3_letFetch 42 = .ok (.istore_n 2, 1) := by decide +kernel
theorem dX3_letFetch_43 : decode cX3_letFetch 43 = .ok (.iload_n 2, 1) := by decide +kernel
theorem dX3_letFetch_44 : decode cX3_letFetch 44 = .ok (.iconst (-1), 1) := by decide +kernel
theorem dX3_letFetch_45 : decode cX3_letFetch 45 = .ok (.if_icmp .ne 19, 3) := by decide +kernel
theorem dX3_letFetch_48 : decode cX3_letFetch 48 = .ok (.aload_n 0, 1) := by decide +kernel
theorem dX3_letFetch_49 : decode cX3_letFetch 49 = .ok (.getfield 12, 3) := by decide +kernel
theorem dX3_letFetch_52 : decode cX3_letFetch 52 = .ok (.dup, 1) := by decide +kernel
theorem dX3_letFetch_53 : decode cX3_letFetch 53 = .ok (.getfield 152, 3) := by decide +kernel
theorem dX3_letFetch_56 : decode cX3_letFetch 56 = .ok (.iconst 1, 1) := by decide +kernel
theorem dX3_letFetch_57 : decode cX3_letFetch 57 = .ok (.iadd, 1) := by decide +kernel
theorem dX3_letFetch_58 : decode cX3_letFetch 58 = .ok (.putfield 152, 3) := by decide +kernel
theorem dX3_letFetch_61 : decode cX3_letFetch 61 = .ok (.bipush (-7), 2) := by decide +kernel
theorem dX3_letFetch_63 : decode cX3_letFetch 63 = .ok (.ireturn, 1) := by decide +kernel
theorem dX3_letFetch_64 : decode cX3_letFetch 64 = .ok (.aload_n 0, 1) := by decide +kernel
theorem dX3_letFetch_65 : decode cX3_letFetch 65 = .ok (.getfield 12, 3) := by decide +kernel
theorem dX3_letFetch_68 : decode cX3_letFetch 68 = .ok (.iload_n 2, 1) := by decide +kernel
theorem dX3_letFetch_69 : decode cX3_letFetch 69 = .ok (.iconst 0, 1) := by decide +kernel
theorem dX3_letFetch_70 : decode cX3_letFetch 70 = .ok (.invokevirtual 100, 3) := by decide +kernel
theorem dX3_letFetch_73 : decode cX3_letFetch 73 = .ok (.istore_n 3, 1) := by decide +kernel
theorem dX3_letFetch_74 : decode cX3_letFetch 74 = .ok (.aload_n 0, 1) := by decide +kernel
theorem dX3_letFetch_75 : decode cX3_letFetch 75 = .ok (.getfield 12, 3) := by decide +kernel
theorem dX3_letFetch_78 : decode cX3_letFetch 78 = .ok (.dup, 1) := by decide +kernel
theorem dX3_letFetch_79 : decode cX3_letFetch 79 = .ok (.getfield 149, 3) := by decide +kernel
theorem dX3_letFetch_82 : decode cX3_letFetch 82 = .ok (.iload_n 3, 1) := by decide +kernel
theorem dX3_letFetch_83 : decode cX3_letFetch 83 = .ok (.iadd, 1) := by decide +kernel
theorem dX3_letFetch_84 : decode cX3_letFetch 84 = .ok (.putfield 149, 3) := by decide +kernel
theorem dX3_letFetch_87 : decode cX3_letFetch 87 = .ok (.aload_n 0, 1) := by decide +kernel
theorem dX3_letFetch_88 : decode cX3_letFetch 88 = .ok (.getfield 12, 3) := by decide +kernel
theorem dX3_letFetch_91 : decode cX3_letFetch 91 = .ok (.getfield 132, 3) := by decide +kernel
theorem dX3_letFetch_94 : decode cX3_letFetch 94 = .ok (.aload_n 0, 1) := by decide +kernel
theorem dX3_letFetch_95 : decode cX3_letFetch 95 = .ok (.getfield 12, 3) := by decide +kernel
theorem dX3_letFetch_98 : decode cX3_letFetch 98 = .ok (.getfield 91, 3) := by decide +kernel
theorem dX3_letFetch_101 : decode cX3_letFetch 101 = .ok (.iload_n 2, 1) := by decide +kernel
theorem dX3_letFetch_102 : decode cX3_letFetch 102 = .ok (.iaload, 1) := by decide +kernel
theorem dX3_letFetch_103 : decode cX3_letFetch 103 = .ok (.dup2, 1) := by decide +kernel
theorem dX3_letFetch_104 : decode cX3_letFetch 104 = .ok (.iaload, 1) := by decide +kernel
theorem dX3_letFetch_105 : decode cX3_letFetch 105 = .ok (.iconst 1, 1) := by decide +kernel
theorem dX3_letFetch_106 : decode cX3_letFetch 106 = .ok (.iadd, 1) := by decide +kernel
theorem dX3_letFetch_107 : decode cX3_letFetch 107 = .ok (.iastore, 1) := by decide +kernel
theorem dX3_letFetch_108 : decode cX3_letFetch 108 = .ok (.aload_n 0, 1) := by decide +kernel
theorem dX3_letFetch_109 : decode cX3_letFetch 109 = .ok (.getfield 12, 3) := by decide +kernel
theorem dX3_letFetch_112 : decode cX3_letFetch 112 = .ok (.iload_n 2, 1) := by decide +kernel
theorem dX3_letFetch_113 : decode cX3_letFetch 113 = .ok (.invokevirtual 238, 3) := by decide +kernel
theorem dX3_letFetch_116 : decode cX3_letFetch 116 = .ok (.iload_n 3, 1) := by decide +kernel
theorem dX3_letFetch_117 : decode cX3_letFetch 117 = .ok (.ireturn, 1) := by decide +kernel
set_option maxRecDepth 20000 in
theorem ggX3_letRefuse_X1_placeWith : GoodIn wsX3_letRefuse wsX1_placeWith := goodIn_r _ [8, 9, 10, 11, 12, 13, 14, 15, 16, 17, 18, 19, 20, 21, 22, 23, 24, 55, 56, 57, 58, 59, 60, 61, 62, 63, 64, 65, 66, 67, 68] (by decide +kernel) (by decide +kernel)
set_option maxRecDepth 20000 in
theorem gX3_letRefuse_X1_placeWith : GoodIn wsX3_letRefuse (wsV RX3 88 RX1 yX1_placeWith wsX1_placeWith) := goodIn_app (goodIn_of _ (by decide +kernel)) ggX3_letRefuse_X1_placeWith
set_option maxRecDepth 20000 in
theorem ggX3_letRefuse_X3_refuseForNoParcel : GoodIn wsX3_letRefuse wsX3_refuseForNoParcel := goodIn_r _ [28, 1, 29, 10, 11, 12, 13, 14, 15, 16, 17, 18, 19, 20, 21, 22, 23, 24, 30, 31, 32, 7, 33, 34, 35, 36, 37, 38, 39, 40, 41, 42, 47, 48, 49, 50, 51, 52, 53, 54, 55, 56, 57, 58, 59, 60, 61, 62, 63, 64, 65, 66, 67, 68] (by decide +kernel) (by decide +kernel)
set_option maxRecDepth 20000 in
theorem gX3_letRefuse_X3_refuseForNoParcel : GoodIn wsX3_letRefuse (wsV RX3 242 RX3 yX3_refuseForNoParcel wsX3_refuseForNoParcel) := goodIn_app (goodIn_of _ (by decide +kernel)) ggX3_letRefuse_X3_refuseForNoParcel
set_option maxRecDepth 20000 in
theorem ggX3_letRefuse_X3_refuseFor : GoodIn wsX3_letRefuse wsX3_refuseFor := goodIn_r _ [40, 41, 42, 47, 48, 49, 50, 51, 52, 53, 54] (by decide +kernel) (by decide +kernel)
set_option maxRecDepth 20000 in
theorem gX3_letRefuse_X3_refuseFor : GoodIn wsX3_letRefuse (wsV RX3 235 RX3 yX3_refuseFor wsX3_refuseFor) := goodIn_app (goodIn_of _ (by decide +kernel)) ggX3_letRefuse_X3_refuseFor
set_option maxRecDepth 20000 in
theorem ggX3_letRefuse_X1_leave : GoodIn wsX3_letRefuse wsX1_leave := goodIn_r _ [46, 9, 34, 35, 23, 11, 24, 55, 56, 57, 58, 59, 60, 61, 62, 63, 64, 65, 66, 67, 68] (by decide +kernel) (by decide +kernel)
set_option maxRecDepth 20000 in
theorem gX3_letRefuse_X1_leave : GoodIn wsX3_letRefuse (wsV RX3 238 RX1 yX1_leave wsX1_leave) := goodIn_app (goodIn_of _ (by decide +kernel)) ggX3_letRefuse_X1_leave
theorem dX3_letRefuse_0 : decode cX3_letRefuse 0 = .ok (.aload_n 0, 1) := by decide +kernel
theorem dX3_letRefuse_1 : decode cX3_letRefuse 1 = .ok (.getfield 12, 3) := by decide +kernel
theorem dX3_letRefuse_4 : decode cX3_letRefuse 4 = .ok (.iload_n 1, 1) := by decide +kernel
theorem dX3_letRefuse_5 : decode cX3_letRefuse 5 = .ok (.invokevirtual 88, 3) := by decide +kernel
theorem dX3_letRefuse_8 : decode cX3_letRefuse 8 = .ok (.istore_n 2, 1) := by decide +kernel
theorem dX3_letRefuse_9 : decode cX3_letRefuse 9 = .ok (.iload_n 2, 1) := by decide +kernel
theorem dX3_letRefuse_10 : decode cX3_letRefuse 10 = .ok (.iconst (-1), 1) := by decide +kernel
theorem dX3_letRefuse_11 : decode cX3_letRefuse 11 = .ok (.if_icmp .ne 10, 3) := by decide +kernel
theorem dX3_letRefuse_14 : decode cX3_letRefuse 14 = .ok (.aload_n 0, 1) := by decide +kernel
theorem dX3_letRefuse_15 : decode cX3_letRefuse 15 = .ok (.iload_n 1, 1) := by decide +kernel
theorem dX3_letRefuse_16 : decode cX3_letRefuse 16 = .ok (.invokevirtual 242, 3) := by decide +kernel
theorem dX3_letRefuse_19 : decode cX3_letRefuse 19 = .ok (.iconst (-1), 1) := by decide +kernel
theorem dX3_letRefuse_20 : decode cX3_letRefuse 20 = .ok (.ireturn, 1) := by decide +kernel
theorem dX3_letRefuse_21 : decode cX3_letRefuse 21 = .ok (.aload_n 0, 1) := by decide +kernel
theorem dX3_letRefuse_22 : decode cX3_letRefuse 22 = .ok (.getfield 12, 3) := by decide +kernel
theorem dX3_letRefuse_25 : decode cX3_letRefuse 25 = .ok (.getfield 91, 3) := by decide +kernel
theorem dX3_letRefuse_28 : decode cX3_letRefuse 28 = .ok (.iload_n 2, 1) := by decide +kernel
theorem dX3_letRefuse_29 : decode cX3_letRefuse 29 = .ok (.iaload, 1) := by decide +kernel
theorem dX3_letRefuse_30 : decode cX3_letRefuse 30 = .ok (.istore_n 3, 1) := by decide +kernel
theorem dX3_letRefuse_31 : decode cX3_letRefuse 31 = .ok (.aload_n 0, 1) := by decide +kernel
theorem dX3_letRefuse_32 : decode cX3_letRefuse 32 = .ok (.getfield 12, 3) := by decide +kernel
theorem dX3_letRefuse_35 : decode cX3_letRefuse 35 = .ok (.getfield 126, 3) := by decide +kernel
theorem dX3_letRefuse_38 : decode cX3_letRefuse 38 = .ok (.iload_n 3, 1) := by decide +kernel
theorem dX3_letRefuse_39 : decode cX3_letRefuse 39 = .ok (.iaload, 1) := by decide +kernel
theorem dX3_letRefuse_40 : decode cX3_letRefuse 40 = .ok (.bipush 9, 2) := by decide +kernel
theorem dX3_letRefuse_42 : decode cX3_letRefuse 42 = .ok (.if_icmp .lt 13, 3) := by decide +kernel
theorem dX3_letRefuse_45 : decode cX3_letRefuse 45 = .ok (.aload_n 0, 1) := by decide +kernel
theorem dX3_letRefuse_46 : decode cX3_letRefuse 46 = .ok (.iconst 3, 1) := by decide +kernel
theorem dX3_letRefuse_47 : decode cX3_letRefuse 47 = .ok (.bipush (-6), 2) := by decide +kernel
theorem dX3_letRefuse_49 : decode cX3_letRefuse 49 = .ok (.invokevirtual 235, 3) := by decide +kernel
theorem dX3_letRefuse_52 : decode cX3_letRefuse 52 = .ok (.bipush (-3), 2) := by decide +kernel
theorem dX3_letRefuse_54 : decode cX3_letRefuse 54 = .ok (.ireturn, 1) := by decide +kernel
theorem dX3_letRefuse_55 : decode cX3_letRefuse 55 = .ok (.aload_n 0, 1) := by decide +kernel
theorem dX3_letRefuse_56 : decode cX3_letRefuse 56 = .ok (.getfield 12, 3) := by decide +kernel
theorem dX3_letRefuse_59 : decode cX3_letRefuse 59 = .ok (.iload_n 2, 1) := by decide +kernel
theorem dX3_letRefuse_60 : decode cX3_letRefuse 60 = .ok (.invokevirtual 238, 3) := by decide +kernel
theorem dX3_letRefuse_63 : decode cX3_letRefuse 63 = .ok (.aload_n 0, 1) := by decide +kernel
theorem dX3_letRefuse_64 : decode cX3_letRefuse 64 = .ok (.getfield 12, 3) := by decide +kernel
theorem dX3_letRefuse_67 : decode cX3_letRefuse 67 = .ok (.getfield 126, 3) := by decide +kernel
theorem dX3_letRefuse_70 : decode cX3_letRefuse 70 = .ok (.iload_n 3, 1) := by decide +kernel
theorem dX3_letRefuse_71 : decode cX3_letRefuse 71 = .ok (.dup2, 1) := by decide +kernel
theorem dX3_letRefuse_72 : decode cX3_letRefuse 72 = .ok (.iaload, 1) := by decide +kernel
theorem dX3_letRefuse_73 : decode cX3_letRefuse 73 = .ok (.iconst 1, 1) := by decide +kernel
theorem dX3_letRefuse_74 : decode cX3_letRefuse 74 = .ok (.iadd, 1) := by decide +kernel
theorem dX3_letRefuse_75 : decode cX3_letRefuse 75 = .ok (.iastore, 1) := by decide +kernel
theorem dX3_letRefuse_76 : decode cX3_letRefuse 76 = .ok (.aload_n 0, 1) := by decide +kernel
theorem dX3_letRefuse_77 : decode cX3_letRefuse 77 = .ok (.getfield 12, 3) := by decide +kernel
theorem dX3_letRefuse_80 : decode cX3_letRefuse 80 = .ok (.getfield 126, 3) := by decide +kernel
theorem dX3_letRefuse_83 : decode cX3_letRefuse 83 = .ok (.iload_n 3, 1) := by decide +kernel
theorem dX3_letRefuse_84 : decode cX3_letRefuse 84 = .ok (.iaload, 1) := by decide +kernel
theorem dX3_letRefuse_85 : decode cX3_letRefuse 85 = .ok (.ireturn, 1) := by decide +kernel
set_option maxRecDepth 20000 in
theorem ggX3_moveParcel_X1_placeWith : GoodIn wsX3_moveParcel wsX1_placeWith := goodIn_r _ [9, 10, 11, 12, 13, 14, 15, 16, 17, 18, 19, 20, 21, 22, 23, 24, 25, 95, 96, 97, 98, 99, 100, 101, 102, 103, 104, 105, 106, 107, 108] (by decide +kernel) (by decide +kernel)
set_option maxRecDepth 20000 in
theorem gX3_moveParcel_X1_placeWith : GoodIn wsX3_moveParcel (wsV RX3 88 RX1 yX1_placeWith wsX1_placeWith) := goodIn_app (goodIn_of _ (by decide +kernel)) ggX3_moveParcel_X1_placeWith
set_option maxRecDepth 20000 in
theorem ggX3_moveParcel_X3_refuseForNoParcel : GoodIn wsX3_moveParcel wsX3_refuseForNoParcel := goodIn_r _ [29, 1, 30, 11, 12, 13, 14, 15, 16, 17, 18, 19, 20, 21, 22, 23, 24, 25, 31, 32, 33, 8, 34, 35, 36, 37, 38, 39, 40, 41, 42, 43, 87, 88, 89, 90, 91, 92, 93, 94, 95, 96, 97, 98, 99, 100, 101, 102, 103, 104, 105, 106, 107, 108] (by decide +kernel) (by decide +kernel)
set_option maxRecDepth 20000 in
theorem gX3_moveParcel_X3_refuseForNoParcel : GoodIn wsX3_moveParcel (wsV RX3 242 RX3 yX3_refuseForNoParcel wsX3_refuseForNoParcel) := goodIn_app (goodIn_of _ (by decide +kernel)) ggX3_moveParcel_X3_refuseForNoParcel
set_option maxRecDepth 20000 in
theorem ggX3_moveParcel_X3_isWithin : GoodIn wsX3_moveParcel wsX3_isWithin := goodIn_r _ [16] (by decide +kernel) (by decide +kernel)
set_option maxRecDepth 20000 in
theorem gX3_moveParcel_X3_isWithin : GoodIn wsX3_moveParcel (va_wsS RX3 59 yX3_isWithin wsX3_isWithin) := goodIn_app (goodIn_of _ (by decide +kernel)) ggX3_moveParcel_X3_isWithin
set_option maxRecDepth 20000 in
theorem ggX3_moveParcel_X3_sizeOfShelf : GoodIn wsX3_moveParcel wsX3_sizeOfShelf := goodIn_r _ [46] (by decide +kernel) (by decide +kernel)
set_option maxRecDepth 20000 in
theorem gX3_moveParcel_X3_sizeOfShelf : GoodIn wsX3_moveParcel (va_wsS RX3 114 yX3_sizeOfShelf wsX3_sizeOfShelf) := goodIn_app (goodIn_of _ (by decide +kernel)) ggX3_moveParcel_X3_sizeOfShelf
set_option maxRecDepth 20000 in
theorem ggX3_moveParcel_X1_placeToGive : GoodIn wsX3_moveParcel wsX1_placeToGive := goodIn_r _ [50, 51, 52, 53, 8, 54, 10, 55, 56, 57, 58, 36, 59, 12, 60, 24, 25, 61, 32, 33, 34, 35, 37, 95, 96, 97, 98, 99, 100, 101, 102, 103, 104, 105, 106, 107, 108] (by decide +kernel) (by decide +kernel)
set_option maxRecDepth 20000 in
theorem gX3_moveParcel_X1_placeToGive : GoodIn wsX3_moveParcel (wsV RX3 180 RX1 yX1_placeToGive wsX1_placeToGive) := goodIn_app (goodIn_of _ (by decide +kernel)) ggX3_moveParcel_X1_placeToGive
set_option maxRecDepth 20000 in
theorem ggX3_moveParcel_X3_refuseForNoPlace : GoodIn wsX3_moveParcel wsX3_refuseForNoPlace := goodIn_r _ [65, 1, 66, 67, 68, 8, 69, 51, 52, 53, 54, 10, 38, 39, 40, 12, 41, 42, 43, 87, 88, 89, 90, 91, 92, 93, 94, 95, 96, 97, 98, 99, 100, 101, 102, 103, 104, 105, 106, 107, 108] (by decide +kernel) (by decide +kernel)
set_option maxRecDepth 20000 in
theorem gX3_moveParcel_X3_refuseForNoPlace : GoodIn wsX3_moveParcel (wsV RX3 227 RX3 yX3_refuseForNoPlace wsX3_refuseForNoPlace) := goodIn_app (goodIn_of _ (by decide +kernel)) ggX3_moveParcel_X3_refuseForNoPlace
set_option maxRecDepth 20000 in
theorem ggX3_moveParcel_X1_put : GoodIn wsX3_moveParcel wsX1_put := goodIn_r _ [73, 10, 36, 74, 75, 76, 59, 12, 60, 95, 96, 97, 98, 99, 100, 101, 102, 103, 104, 105, 106, 107, 108] (by decide +kernel) (by decide +kernel)
set_option maxRecDepth 20000 in
theorem gX3_moveParcel_X1_put : GoodIn wsX3_moveParcel (wsV RX3 231 RX1 yX1_put wsX1_put) := goodIn_app (goodIn_of _ (by decide +kernel)) ggX3_moveParcel_X1_put
set_option maxRecDepth 20000 in
theorem ggX3_moveParcel_X1_leave : GoodIn wsX3_moveParcel wsX1_leave := goodIn_r _ [80, 10, 35, 36, 24, 12, 25, 95, 96, 97, 98, 99, 100, 101, 102, 103, 104, 105, 106, 107, 108] (by decide +kernel) (by decide +kernel)
set_option maxRecDepth 20000 in
theorem gX3_moveParcel_X1_leave : GoodIn wsX3_moveParcel (wsV RX3 238 RX1 yX1_leave wsX1_leave) := goodIn_app (goodIn_of _ (by decide +kernel)) ggX3_moveParcel_X1_leave
set_option maxRecDepth 20000 in
theorem ggX3_moveParcel_X1_codeOn : GoodIn wsX3_moveParcel wsX1_codeOn := goodIn_r _ [84, 10, 85, 12, 86, 20, 21, 22, 95, 96, 97, 98, 99, 100, 101, 102, 103, 104, 105, 106, 107, 108] (by decide +kernel) (by decide +kernel)
set_option maxRecDepth 20000 in
theorem gX3_moveParcel_X1_codeOn : GoodIn wsX3_moveParcel (wsV RX3 111 RX1 yX1_codeOn wsX1_codeOn) := goodIn_app (goodIn_of _ (by decide +kernel)) ggX3_moveParcel_X1_codeOn
theorem dX3_moveParcel_0 : decode cX3_moveParcel 0 = .ok (.aload_n 0, 1) := by decide +kernel
theorem dX3_moveParcel_1 : decode cX3_moveParcel 1 = .ok (.getfield 12, 3) := by decide +kernel
theorem dX3_moveParcel_4 : decode cX3_moveParcel 4 = .ok (.iload_n 1, 1) := by decide +kernel
theorem dX3_moveParcel_5 : decode cX3_moveParcel 5 = .ok (.invokevirtual 88, 3) := by decide +kernel
theorem dX3_moveParcel_8 : decode cX3_moveParcel 8 = .ok (.istore_n 3, 1) := by decide +kernel
theorem dX3_moveParcel_9 : decode cX3_moveParcel 9 = .ok (.iload_n 3, 1) := by decide +kernel
theorem dX3_moveParcel_10 : decode cX3_moveParcel 10 = .ok (.iconst (-1), 1) := by decide +kernel
theorem dX3_moveParcel_11 : decode cX3_moveParcel 11 = .ok (.if_icmp .ne 10, 3) := by decide +kernel
theorem dX3_moveParcel_14 : decode cX3_moveParcel 14 = .ok (.aload_n 0, 1) := by decide +kernel
theorem dX3_moveParcel_15 : decode cX3_moveParcel 15 = .ok (.iload_n 1, 1) := by decide +kernel
theorem dX3_moveParcel_16 : decode cX3_moveParcel 16 = .ok (.invokevirtual 242, 3) := by decide +kernel
theorem dX3_moveParcel_19 : decode cX3_moveParcel 19 = .ok (.iconst (-1), 1) := by decide +kernel
theorem dX3_moveParcel_20 : decode cX3_moveParcel 20 = .ok (.ireturn, 1) := by decide +kernel
theorem dX3_moveParcel_21 : decode cX3_moveParcel 21 = .ok (.iload_n 2, 1) := by decide +kernel
theorem dX3_moveParcel_22 : decode cX3_moveParcel 22 = .ok (.iconst 0, 1) := by decide +kernel
theorem dX3_moveParcel_23 : decode cX3_moveParcel 23 = .ok (.iconst 5, 1) := by decide +kernel
theorem dX3_moveParcel_24 : decode cX3_moveParcel 24 = .ok (.invokestatic 59, 3) := by decide +kernel
theorem dX3_moveParcel_27 : decode cX3_moveParcel 27 = .ok (.ifCond .ne 5, 3) := by decide +kernel
theorem dX3_moveParcel_30 : decode cX3_moveParcel 30 = .ok (.iconst (-1), 1) := by decide +kernel
theorem dX3_moveParcel_31 : decode cX3_moveParcel 31 = .ok (.ireturn, 1) := by decide +kernel
theorem dX3_moveParcel_32 : decode cX3_moveParcel 32 = .ok (.iload_n 2, 1) := by decide +kernel
theorem dX3_moveParcel_33 : decode cX3_moveParcel 33 = .ok (.iload_n 3, 1) := by decide +kernel
theorem dX3_moveParcel_34 : decode cX3_moveParcel 34 = .ok (.bipush 8, 2) := by decide +kernel
theorem dX3_moveParcel_36 : decode cX3_moveParcel 36 = .ok (.idiv, 1) := by decide +kernel
theorem dX3_moveParcel_37 : decode cX3_moveParcel 37 = .ok (.if_icmp .eq 19, 3) := by decide +kernel
theorem dX3_moveParcel_40 : decode cX3_moveParcel 40 = .ok (.iload_n 2, 1) := by decide +kernel
theorem dX3_moveParcel_41 : decode cX3_moveParcel 41 = .ok (.invokestatic 114, 3) := by decide +kernel
theorem dX3_moveParcel_44 : decode cX3_moveParcel 44 = .ok (.aload_n 0, 1) := by decide +kernel
theorem dX3_moveParcel_45 : decode cX3_moveParcel 45 = .ok (.getfield 12, 3) := by decide +kernel
theorem dX3_moveParcel_48 : decode cX3_moveParcel 48 = .ok (.getfield 94, 3) := by decide +kernel
theorem dX3_moveParcel_51 : decode cX3_moveParcel 51 = .ok (.iload_n 3, 1) := by decide +kernel
theorem dX3_moveParcel_52 : decode cX3_moveParcel 52 = .ok (.iaload, 1) := by decide +kernel
theorem dX3_moveParcel_53 : decode cX3_moveParcel 53 = .ok (.if_icmp .ge 6, 3) := by decide +kernel
theorem dX3_moveParcel_56 : decode cX3_moveParcel 56 = .ok (.bipush (-2), 2) := by decide +kernel
theorem dX3_moveParcel_58 : decode cX3_moveParcel 58 = .ok (.ireturn, 1) := by decide +kernel
theorem dX3_moveParcel_59 : decode cX3_moveParcel 59 = .ok (.aload_n 0, 1) := by decide +kernel
theorem dX3_moveParcel_60 : decode cX3_moveParcel 60 = .ok (.getfield 12, 3) := by decide +kernel
theorem dX3_moveParcel_63 : decode cX3_moveParcel 63 = .ok (.iload_n 2, 1) := by decide +kernel
theorem dX3_moveParcel_64 : decode cX3_moveParcel 64 = .ok (.iload_n 2, 1) := by decide +kernel
theorem dX3_moveParcel_65 : decode cX3_moveParcel 65 = .ok (.invokevirtual 180, 3) := by decide +kernel
theorem dX3_moveParcel_68 : decode cX3_moveParcel 68 = .ok (.istore 4, 2) := by decide +kernel
theorem dX3_moveParcel_70 : decode cX3_moveParcel 70 = .ok (.iload 4, 2) := by decide +kernel
theorem dX3_moveParcel_72 : decode cX3_moveParcel 72 = .ok (.iconst (-1), 1) := by decide +kernel
theorem dX3_moveParcel_73 : decode cX3_moveParcel 73 = .ok (.if_icmp .ne 12, 3) := by decide +kernel
theorem dX3_moveParcel_76 : decode cX3_moveParcel 76 = .ok (.aload_n 0, 1) := by decide +kernel
theorem dX3_moveParcel_77 : decode cX3_moveParcel 77 = .ok (.iload_n 2, 1) := by decide +kernel
theorem dX3_moveParcel_78 : decode cX3_moveParcel 78 = .ok (.iload_n 2, 1) := by decide +kernel
theorem dX3_moveParcel_79 : decode cX3_moveParcel 79 = .ok (.invokevirtual 227, 3) := by decide +kernel
theorem dX3_moveParcel_82 : decode cX3_moveParcel 82 = .ok (.bipush (-4), 2) := by decide +kernel
theorem dX3_moveParcel_84 : decode cX3_moveParcel 84 = .ok (.ireturn, 1) := by decide +kernel
theorem dX3_moveParcel_85 : decode cX3_moveParcel 85 = .ok (.aload_n 0, 1) := by decide +kernel
theorem dX3_moveParcel_86 : decode cX3_moveParcel 86 = .ok (.getfield 12, 3) := by decide +kernel
theorem dX3_moveParcel_89 : decode cX3_moveParcel 89 = .ok (.iload 4, 2) := by decide +kernel
theorem dX3_moveParcel_91 : decode cX3_moveParcel 91 = .ok (.aload_n 0, 1) := by decide +kernel
theorem dX3_moveParcel_92 : decode cX3_moveParcel 92 = .ok (.getfield 12, 3) := by decide +kernel
theorem dX3_moveParcel_95 : decode cX3_moveParcel 95 = .ok (.getfield 91, 3) := by decide +kernel
theorem dX3_moveParcel_98 : decode cX3_moveParcel 98 = .ok (.iload_n 3, 1) := by decide +kernel
theorem dX3_moveParcel_99 : decode cX3_moveParcel 99 = .ok (.iaload, 1) := by decide +kernel
theorem dX3_moveParcel_100 : decode cX3_moveParcel 100 = .ok (.aload_n 0, 1) := by decide +kernel
theorem dX3_moveParcel_101 : decode cX3_moveParcel 101 = .ok (.getfield 12, 3) := by decide +kernel
theorem dX3_moveParcel_104 : decode cX3_moveParcel 104 = .ok (.getfield 94, 3) := by decide +kernel
theorem dX3_moveParcel_107 : decode cX3_moveParcel 107 = .ok (.iload_n 3, 1) := by decide +kernel
theorem dX3_moveParcel_108 : decode cX3_moveParcel 108 = .ok (.iaload, 1) := by decide +kernel
theorem dX3_moveParcel_109 : decode cX3_moveParcel 109 = .ok (.aload_n 0, 1) := by decide +kernel
theorem dX3_moveParcel_110 : decode cX3_moveParcel 110 = .ok (.getfield 12, 3) := by decide +kernel
theorem dX3_moveParcel_113 : decode cX3_moveParcel 113 = .ok (.getfield 97, 3) := by decide +kernel
theorem dX3_moveParcel_116 : decode cX3_moveParcel 116 = .ok (.iload_n 3, 1) := by decide +kernel
theorem dX3_moveParcel_117 : decode cX3_moveParcel 117 = .ok (.iaload, 1) := by decide +kernel
theorem dX3_moveParcel_118 : decode cX3_moveParcel 118 = .ok (.invokevirtual 231, 3) := by decide +kernel
theorem dX3_moveParcel_121 : decode cX3_moveParcel 121 = .ok (.aload_n 0, 1) := by decide +kernel
theorem dX3_moveParcel_122 : decode cX3_moveParcel 122 = .ok (.getfield 12, 3) := by decide +kernel
theorem dX3_moveParcel_125 : decode cX3_moveParcel 125 = .ok (.iload_n 3, 1) := by decide +kernel
theorem dX3_moveParcel_126 : decode cX3_moveParcel 126 = .ok (.invokevirtual 238, 3) := by decide +kernel
theorem dX3_moveParcel_129 : decode cX3_moveParcel 129 = .ok (.aload_n 0, 1) := by decide +kernel
theorem dX3_moveParcel_130 : decode cX3_moveParcel 130 = .ok (.getfield 12, 3) := by decide +kernel
theorem dX3_moveParcel_133 : decode cX3_moveParcel 133 = .ok (.iload 4, 2) := by decide +kernel
theorem dX3_moveParcel_135 : decode cX3_moveParcel 135 = .ok (.invokevirtual 111, 3) := by decide +kernel
theorem dX3_moveParcel_138 : decode cX3_moveParcel 138 = .ok (.ireturn, 1) := by decide +kernel
set_option maxRecDepth 20000 in
theorem ggX3_letPass_X3_isWithin : GoodIn wsX3_letPass wsX3_isWithin := goodIn_r _ [6] (by decide +kernel) (by decide +kernel)
set_option maxRecDepth 20000 in
theorem gX3_letPass_X3_isWithin : GoodIn wsX3_letPass (va_wsS RX3 59 yX3_isWithin wsX3_isWithin) := goodIn_app (goodIn_of _ (by decide +kernel)) ggX3_letPass_X3_isWithin
set_option maxRecDepth 20000 in
theorem ggX3_letPass_X1_beginDay : GoodIn wsX3_letPass wsX1_beginDay := goodIn_r _ [11, 12, 13, 14, 15, 16, 10, 17, 18, 19, 20, 21, 22, 23, 24, 25, 26, 27, 28, 29, 30, 31, 32, 33, 34, 35, 36, 37, 38, 39, 40, 41, 42, 5, 43, 52, 53, 54, 55, 56, 57, 58, 59, 60, 61, 62, 63, 64, 65] (by decide +kernel) (by decide +kernel)
set_option maxRecDepth 20000 in
theorem gX3_letPass_X1_beginDay : GoodIn wsX3_letPass (wsV RX3 186 RX1 yX1_beginDay wsX1_beginDay) := goodIn_app (goodIn_of _ (by decide +kernel)) ggX3_letPass_X1_beginDay
theorem dX3_letPass_0 : decode cX3_letPass 0 = .ok (.iload_n 1, 1) := by decide +kernel
theorem dX3_letPass_1 : decode cX3_letPass 1 = .ok (.iconst 1, 1) := by decide +kernel
theorem dX3_letPass_2 : decode cX3_letPass 2 = .ok (.bipush 30, 2) := by decide +kernel
theorem dX3_letPass_4 : decode cX3_letPass 4 = .ok (.invokestatic 59, 3) := by decide +kernel
theorem dX3_letPass_7 : decode cX3_letPass 7 = .ok (.ifCond .ne 6, 3) := by decide +kernel
theorem dX3_letPass_10 : decode cX3_letPass 10 = .ok (.bipush (-2), 2) := by decide +kernel
theorem dX3_letPass_12 : decode cX3_letPass 12 = .ok (.ireturn, 1) := by decide +kernel
theorem dX3_letPass_13 : decode cX3_letPass 13 = .ok (.aload_n 0, 1) := by decide +kernel
theorem dX3_letPass_14 : decode cX3_letPass 14 = .ok (.getfield 12, 3) := by decide +kernel
theorem dX3_letPass_17 : decode cX3_letPass 17 = .ok (.getfield 85, 3) := by decide +kernel
theorem dX3_letPass_20 : decode cX3_letPass 20 = .ok (.sipush 9999, 3) := by decide +kernel
theorem dX3_letPass_23 : decode cX3_letPass 23 = .ok (.iload_n 1, 1) := by decide +kernel
theorem dX3_letPass_24 : decode cX3_letPass 24 = .ok (.isub, 1) := by decide +kernel
theorem dX3_letPass_25 : decode cX3_letPass 25 = .ok (.if_icmp .le 6, 3) := by decide +kernel
theorem dX3_letPass_28 : decode cX3_letPass 28 = .ok (.bipush (-4), 2) := by decide +kernel
theorem dX3_letPass_30 : decode cX3_letPass 30 = .ok (.ireturn, 1) := by decide +kernel
theorem dX3_letPass_31 : decode cX3_letPass 31 = .ok (.iconst 0, 1) := by decide +kernel
theorem dX3_letPass_32 : decode cX3_letPass 32 = .ok (.istore_n 2, 1) := by decide +kernel
theorem dX3_letPass_33 : decode cX3_letPass 33 = .ok (.iconst 0, 1) := by decide +kernel
theorem dX3_letPass_34 : decode cX3_letPass 34 = .ok (.istore_n 3, 1) := by decide +kernel
theorem dX3_letPass_35 : decode cX3_letPass 35 = .ok (.iload_n 3, 1) := by decide +kernel
theorem dX3_letPass_36 : decode cX3_letPass 36 = .ok (.iload_n 1, 1) := by decide +kernel
theorem dX3_letPass_37 : decode cX3_letPass 37 = .ok (.if_icmp .ge 19, 3) := by decide +kernel
theorem dX3_letPass_40 : decode cX3_letPass 40 = .ok (.iload_n 2, 1) := by decide +kernel
theorem dX3_letPass_41 : decode cX3_letPass 41 = .ok (.aload_n 0, 1) := by decide +kernel
theorem dX3_letPass_42 : decode cX3_letPass 42 = .ok (.getfield 12, 3) := by decide +kernel
theorem dX3_letPass_45 : decode cX3_letPass 45 = .ok (.invokevirtual 186, 3) := by decide +kernel
theorem dX3_letPass_48 : decode cX3_letPass 48 = .ok (.iadd, 1) := by decide +kernel
theorem dX3_letPass_49 : decode cX3_letPass 49 = .ok (.istore_n 2, 1) := by decide +kernel
theorem dX3_letPass_50 : decode cX3_letPass 50 = .ok (.iinc 3 1, 3) := by decide +kernel
theorem dX3_letPass_53 : decode cX3_letPass 53 = .ok (.goto (-18), 3) := by decide +kernel
theorem dX3_letPass_56 : decode cX3_letPass 56 = .ok (.iload_n 2, 1) := by decide +kernel
theorem dX3_letPass_57 : decode cX3_letPass 57 = .ok (.ireturn, 1) := by decide +kernel
set_option maxRecDepth 20000 in
theorem ggX3_callCourier_X3_isWithin : GoodIn wsX3_callCourier wsX3_isWithin := goodIn_r _ [6] (by decide +kernel) (by decide +kernel)
set_option maxRecDepth 20000 in
theorem gX3_callCourier_X3_isWithin : GoodIn wsX3_callCourier (va_wsS RX3 59 yX3_isWithin wsX3_isWithin) := goodIn_app (goodIn_of _ (by decide +kernel)) ggX3_callCourier_X3_isWithin
set_option maxRecDepth 20000 in
theorem ggX3_callCourier_X1_emptyBin : GoodIn wsX3_callCourier wsX1_emptyBin := goodIn_r _ [11, 12, 13, 14, 15, 24, 25, 26, 27, 28, 29, 30, 31, 32, 33, 34, 35, 36, 37] (by decide +kernel) (by decide +kernel)
set_option maxRecDepth 20000 in
theorem gX3_callCourier_X1_emptyBin : GoodIn wsX3_callCourier (wsV RX3 245 RX1 yX1_emptyBin wsX1_emptyBin) := goodIn_app (goodIn_of _ (by decide +kernel)) ggX3_callCourier_X1_emptyBin
theorem dX3_callCourier_0 : decode cX3_callCourier 0 = .ok (.iload_n 1, 1) := by decide +kernel
theorem dX3_callCourier_1 : decode cX3_callCourier 1 = .ok (.iconst 0, 1) := by decide +kernel
theorem dX3_callCourier_2 : decode cX3_callCourier 2 = .ok (.bipush 9, 2) := by decide +kernel
theorem dX3_callCourier_4 : decode cX3_callCourier 4 = .ok (.invokestatic 59, 3) := by decide +kernel
theorem dX3_callCourier_7 : decode cX3_callCourier 7 = .ok (.ifCond .ne 5, 3) := by decide +kernel
theorem dX3_callCourier_10 : decode cX3_callCourier 10 = .ok (.iconst (-1), 1) := by decide +kernel
theorem dX3_callCourier_11 : decode cX3_callCourier 11 = .ok (.ireturn, 1) := by decide +kernel
theorem dX3_callCourier_12 : decode cX3_callCourier 12 = .ok (.aload_n 0, 1) := by decide +kernel
theorem dX3_callCourier_13 : decode cX3_callCourier 13 = .ok (.getfield 12, 3) := by decide +kernel
theorem dX3_callCourier_16 : decode cX3_callCourier 16 = .ok (.getfield 126, 3) := by decide +kernel
theorem dX3_callCourier_19 : decode cX3_callCourier 19 = .ok (.iload_n 1, 1) := by decide +kernel
theorem dX3_callCourier_20 : decode cX3_callCourier 20 = .ok (.iaload, 1) := by decide +kernel
theorem dX3_callCourier_21 : decode cX3_callCourier 21 = .ok (.ifCond .ne 6, 3) := by decide +kernel
theorem dX3_callCourier_24 : decode cX3_callCourier 24 = .ok (.bipush (-3), 2) := by decide +kernel
theorem dX3_callCourier_26 : decode cX3_callCourier 26 = .ok (.ireturn, 1) := by decide +kernel
theorem dX3_callCourier_27 : decode cX3_callCourier 27 = .ok (.aload_n 0, 1) := by decide +kernel
theorem dX3_callCourier_28 : decode cX3_callCourier 28 = .ok (.getfield 12, 3) := by decide +kernel
theorem dX3_callCourier_31 : decode cX3_callCourier 31 = .ok (.iload_n 1, 1) := by decide +kernel
theorem dX3_callCourier_32 : decode cX3_callCourier 32 = .ok (.bipush 6, 2) := by decide +kernel
theorem dX3_callCourier_34 : decode cX3_callCourier 34 = .ok (.invokevirtual 245, 3) := by decide +kernel
theorem dX3_callCourier_37 : decode cX3_callCourier 37 = .ok (.ireturn, 1) := by decide +kernel
set_option maxRecDepth 20000 in
theorem ggX3_executeCommand_X2_signAt : GoodIn wsX3_executeCommand wsX2_signAt := goodIn_r _ [6, 7, 8, 9, 10, 11, 185, 186] (by decide +kernel) (by decide +kernel)
set_option maxRecDepth 20000 in
theorem gX3_executeCommand_X2_signAt : GoodIn wsX3_executeCommand (wsV RX3 248 RX2 yX2_signAt wsX2_signAt) := goodIn_app (goodIn_of _ (by decide +kernel)) ggX3_executeCommand_X2_signAt
set_option maxRecDepth 20000 in
theorem ggX3_executeCommand_X2_numberAt : GoodIn wsX3_executeCommand wsX2_numberAt := goodIn_r _ [15, 16, 3, 4, 5, 6, 7, 8, 9, 10, 11, 185, 186] (by decide +kernel) (by decide +kernel)
set_option maxRecDepth 20000 in
theorem gX3_executeCommand_X2_numberAt : GoodIn wsX3_executeCommand (wsV RX3 252 RX2 yX2_numberAt wsX2_numberAt) := goodIn_app (goodIn_of _ (by decide +kernel)) ggX3_executeCommand_X2_numberAt
set_option maxRecDepth 20000 in
theorem ggX3_executeCommand_X2_sizeAt : GoodIn wsX3_executeCommand wsX2_sizeAt := goodIn_r _ [20, 16, 3, 4, 5, 6, 7, 8, 9, 10, 11, 21, 22, 23, 185, 186] (by decide +kernel) (by decide +kernel)
set_option maxRecDepth 20000 in
theorem gX3_executeCommand_X2_sizeAt : GoodIn wsX3_executeCommand (wsV RX3 255 RX2 yX2_sizeAt wsX2_sizeAt) := goodIn_app (goodIn_of _ (by decide +kernel)) ggX3_executeCommand_X2_sizeAt
set_option maxRecDepth 20000 in
theorem ggX3_executeCommand_X3_letCome : GoodIn wsX3_executeCommand wsX3_letCome := goodIn_r _ [27, 28, 29, 30, 31, 9, 10, 11, 32, 33, 34, 35, 36, 37, 38, 39, 40, 41, 42, 43, 44, 45, 46, 47, 48, 49, 50, 51, 52, 53, 54, 55, 56, 57, 58, 59, 60, 61, 62, 63, 64, 65, 66, 67, 68, 69, 70, 71, 72, 73, 74, 75, 76, 77, 78, 79, 80, 81, 82, 83, 84, 85, 86, 87, 88, 89, 177, 178, 179, 180, 181, 182, 183, 184, 187, 188, 189, 190, 191, 192, 193, 194, 195, 196, 197, 198, 199, 200] (by decide +kernel) (by decide +kernel)
set_option maxRecDepth 20000 in
theorem gX3_executeCommand_X3_letCome : GoodIn wsX3_executeCommand (wsV RX3 67 RX3 yX3_letCome wsX3_letCome) := goodIn_app (goodIn_of _ (by decide +kernel)) ggX3_executeCommand_X3_letCome
set_option maxRecDepth 20000 in
theorem ggX3_executeCommand_X3_letFetch : GoodIn wsX3_executeCommand wsX3_letFetch := goodIn_r _ [93, 28, 94, 95, 96, 97, 31, 9, 10, 11, 98, 99, 100, 38, 101, 102, 68, 69, 70, 71, 72, 73, 103, 104, 105, 106, 44, 107, 108, 109, 110, 111, 87, 88, 89, 112, 52, 53, 113, 114, 115, 116, 49, 80, 59, 117, 118, 119, 120, 79, 121, 122, 123, 124, 58, 177, 178, 179, 180, 181, 182, 183, 184, 187, 188, 189, 190, 191, 192, 193, 194, 195, 196, 197, 198, 199, 200] (by decide +kernel) (by decide +kernel)
set_option maxRecDepth 20000 in
theorem gX3_executeCommand_X3_letFetch : GoodIn wsX3_executeCommand (wsV RX3 70 RX3 yX3_letFetch wsX3_letFetch) := goodIn_app (goodIn_of _ (by decide +kernel)) ggX3_executeCommand_X3_letFetch
set_option maxRecDepth 20000 in
theorem ggX3_executeCommand_X3_letRefuse : GoodIn wsX3_executeCommand wsX3_letRefuse := goodIn_r _ [128, 28, 97, 129, 103, 104, 105, 38, 106, 44, 107, 10, 108, 31, 9, 11, 109, 110, 111, 87, 88, 89, 112, 52, 53, 130, 131, 132, 133, 134, 135, 55, 56, 57, 58, 49, 59, 68, 69, 70, 71, 72, 73, 121, 122, 123, 124, 177, 178, 179, 180, 181, 182, 183, 184, 187, 188, 189, 190, 191, 192, 193, 194, 195, 196, 197, 198, 199, 200] (by decide +kernel) (by decide +kernel)
set_option maxRecDepth 20000 in
theorem gX3_executeCommand_X3_letRefuse : GoodIn wsX3_executeCommand (wsV RX3 73 RX3 yX3_letRefuse wsX3_letRefuse) := goodIn_app (goodIn_of _ (by decide +kernel)) ggX3_executeCommand_X3_letRefuse
set_option maxRecDepth 20000 in
theorem ggX3_executeCommand_X3_moveParcel : GoodIn wsX3_executeCommand wsX3_moveParcel := goodIn_r _ [139, 28, 140, 97, 141, 103, 104, 105, 38, 106, 44, 107, 10, 108, 31, 9, 11, 109, 110, 111, 87, 88, 89, 112, 52, 53, 130, 131, 132, 133, 134, 135, 55, 56, 57, 58, 49, 59, 68, 69, 70, 71, 72, 73, 142, 143, 144, 35, 36, 37, 39, 40, 41, 42, 43, 45, 46, 47, 48, 50, 51, 54, 60, 61, 62, 63, 64, 65, 66, 67, 74, 75, 76, 77, 78, 79, 80, 121, 122, 123, 124, 81, 82, 83, 84, 85, 86, 177, 178, 179, 180, 181, 182, 183, 184, 187, 188, 189, 190, 191, 192, 193, 194, 195, 196, 197, 198, 199, 200] (by decide +kernel) (by decide +kernel)
set_option maxRecDepth 20000 in
theorem gX3_executeCommand_X3_moveParcel : GoodIn wsX3_executeCommand (wsV RX3 76 RX3 yX3_moveParcel wsX3_moveParcel) := goodIn_app (goodIn_of _ (by decide +kernel)) ggX3_executeCommand_X3_moveParcel
set_option maxRecDepth 20000 in
theorem ggX3_executeCommand_X2_endOfCommand : GoodIn wsX3_executeCommand wsX2_endOfCommand := goodIn_r _ [148, 7, 16, 3, 4, 5, 6, 8, 9, 10, 11, 185, 186] (by decide +kernel) (by decide +kernel)
set_option maxRecDepth 20000 in
theorem gX3_executeCommand_X2_endOfCommand : GoodIn wsX3_executeCommand (wsV RX3 258 RX2 yX2_endOfCommand wsX2_endOfCommand) := goodIn_app (goodIn_of _ (by decide +kernel)) ggX3_executeCommand_X2_endOfCommand
set_option maxRecDepth 20000 in
theorem ggX3_executeCommand_X3_letPass : GoodIn wsX3_executeCommand wsX3_letPass := goodIn_r _ [152, 28, 29, 31, 9, 10, 11, 153, 154, 155, 38, 156, 49, 102, 157, 158, 159, 160, 161, 59, 162, 163, 164, 165, 166, 167, 168, 169, 170, 171, 78, 172, 173, 174, 175, 44, 80, 176, 122, 123, 124, 58, 52, 53, 177, 178, 179, 180, 181, 182, 183, 184, 187, 188, 189, 190, 191, 192, 193, 194, 195, 196, 197, 198, 199, 200] (by decide +kernel) (by decide +kernel)
set_option maxRecDepth 20000 in
theorem gX3_executeCommand_X3_letPass : GoodIn wsX3_executeCommand (wsV RX3 79 RX3 yX3_letPass wsX3_letPass) := goodIn_app (goodIn_of _ (by decide +kernel)) ggX3_executeCommand_X3_letPass
theorem dX3_executeCommand_0 : decode cX3_executeCommand 0 = .ok (.aload_n 0, 1) := by decide +kernel
theorem dX3_executeCommand_1 : decode cX3_executeCommand 1 = .ok (.getfield 32, 3) := by decide +kernel
theorem dX3_executeCommand_4 : decode cX3_executeCommand 4 = .ok (.iload_n 1, 1) := by decide +kernel
theorem dX3_executeCommand_5 : decode cX3_executeCommand 5 = .ok (.invokevirtual 248, 3) := by decide +kernel
theorem dX3_executeCommand_8 : decode cX3_executeCommand 8 = .ok (.lookupswitch 166 #[(97, 52), (100, 139), (109, 110), (112, 78), (120, 94)], 52) := by decide +kernel
theorem dX3_executeCommand_60 : decode cX3_executeCommand 60 = .ok (.aload_n 0, 1) := by decide +kernel
theorem dX3_executeCommand_61 : decode cX3_executeCommand 61 = .ok (.aload_n 0, 1) := by decide +kernel
theorem dX3_executeCommand_62 : decode cX3_executeCommand 62 = .ok (.getfield 32, 3) := by decide +kernel
theorem dX3_executeCommand_65 : decode cX3_executeCommand 65 = .ok (.iload_n 1, 1) := by decide +kernel
theorem dX3_executeCommand_66 : decode cX3_executeCommand 66 = .ok (.iconst 1, 1) := by decide +kernel
theorem dX3_executeCommand_67 : decode cX3_executeCommand 67 = .ok (.iadd, 1) := by decide +kernel
theorem dX3_executeCommand_68 : decode cX3_executeCommand 68 = .ok (.iconst 1, 1) := by decide +kernel
theorem dX3_executeCommand_69 : decode cX3_executeCommand 69 = .ok (.invokevirtual 252, 3) := by decide +kernel
theorem dX3_executeCommand_72 : decode cX3_executeCommand 72 = .ok (.aload_n 0, 1) := by decide +kernel
theorem dX3_executeCommand_73 : decode cX3_executeCommand 73 = .ok (.getfield 32, 3) := by decide +kernel
theorem dX3_executeCommand_76 : decode cX3_executeCommand 76 = .ok (.iload_n 1, 1) := by decide +kernel
theorem dX3_executeCommand_77 : decode cX3_executeCommand 77 = .ok (.iconst 2, 1) := by decide +kernel
theorem dX3_executeCommand_78 : decode cX3_executeCommand 78 = .ok (.iadd, 1) := by decide +kernel
theorem dX3_executeCommand_79 : decode cX3_executeCommand 79 = .ok (.invokevirtual 255, 3) := by decide +kernel
theorem dX3_executeCommand_82 : decode cX3_executeCommand 82 = .ok (.invokevirtual 67, 3) := by decide +kernel
theorem dX3_executeCommand_85 : decode cX3_executeCommand 85 = .ok (.ireturn, 1) := by decide +kernel
theorem dX3_executeCommand_86 : decode cX3_executeCommand 86 = .ok (.aload_n 0, 1) := by decide +kernel
theorem dX3_executeCommand_87 : decode cX3_executeCommand 87 = .ok (.aload_n 0, 1) := by decide +kernel
theorem dX3_executeCommand_88 : decode cX3_executeCommand 88 = .ok (.getfield 32, 3) := by decide +kernel
theorem dX3_executeCommand_91 : decode cX3_executeCommand 91 = .ok (.iload_n 1, 1) := by decide +kernel
theorem dX3_executeCommand_92 : decode cX3_executeCommand 92 = .ok (.iconst 1, 1) := by decide +kernel
theorem dX3_executeCommand_93 : decode cX3_executeCommand 93 = .ok (.iadd, 1) := by decide +kernel
theorem dX3_executeCommand_94 : decode cX3_executeCommand 94 = .ok (.iconst 4, 1) := by decide +kernel
theorem dX3_executeCommand_95 : decode cX3_executeCommand 95 = .ok (.invokevirtual 252, 3) := by decide +kernel
theorem dX3_executeCommand_98 : decode cX3_executeCommand 98 = .ok (.invokevirtual 70, 3) := by decide +kernel
theorem dX3_executeCommand_101 : decode cX3_executeCommand 101 = .ok (.ireturn, 1) := by decide +kernel
theorem dX3_executeCommand_102 : decode cX3_executeCommand 102 = .ok (.aload_n 0, 1) := by decide +kernel
theorem dX3_executeCommand_103 : decode cX3_executeCommand 103 = .ok (.aload_n 0, 1) := by decide +kernel
theorem dX3_executeCommand_104 : decode cX3_executeCommand 104 = .ok (.getfield 32, 3) := by decide +kernel
theorem dX3_executeCommand_107 : decode cX3_executeCommand 107 = .ok (.iload_n 1, 1) := by decide +kernel
theorem dX3_executeCommand_108 : decode cX3_executeCommand 108 = .ok (.iconst 1, 1) := by decide +kernel
theorem dX3_executeCommand_109 : decode cX3_executeCommand 109 = .ok (.iadd, 1) := by decide +kernel
theorem dX3_executeCommand_110 : decode cX3_executeCommand 110 = .ok (.iconst 4, 1) := by decide +kernel
theorem dX3_executeCommand_111 : decode cX3_executeCommand 111 = .ok (.invokevirtual 252, 3) := by decide +kernel
theorem dX3_executeCommand_114 : decode cX3_executeCommand 114 = .ok (.invokevirtual 73, 3) := by decide +kernel
theorem dX3_executeCommand_117 : decode cX3_executeCommand 117 = .ok (.ireturn, 1) := by decide +kernel
theorem dX3_executeCommand_118 : decode cX3_executeCommand 118 = .ok (.aload_n 0, 1) := by decide +kernel
theorem dX3_executeCommand_119 : decode cX3_executeCommand 119 = .ok (.aload_n 0, 1) := by decide +kernel
theorem dX3_executeCommand_120 : decode cX3_executeCommand 120 = .ok (.getfield 32, 3) := by decide +kernel
theorem dX3_executeCommand_123 : decode cX3_executeCommand 123 = .ok (.iload_n 1, 1) := by decide +kernel
theorem dX3_executeCommand_124 : decode cX3_executeCommand 124 = .ok (.iconst 1, 1) := by decide +kernel
theorem dX3_executeCommand_125 : decode cX3_executeCommand 125 = .ok (.iadd, 1) := by decide +kernel
theorem dX3_executeCommand_126 : decode cX3_executeCommand 126 = .ok (.iconst 4, 1) := by decide +kernel
theorem dX3_executeCommand_127 : decode cX3_executeCommand 127 = .ok (.invokevirtual 252, 3) := by decide +kernel
theorem dX3_executeCommand_130 : decode cX3_executeCommand 130 = .ok (.aload_n 0, 1) := by decide +kernel
theorem dX3_executeCommand_131 : decode cX3_executeCommand 131 = .ok (.getfield 32, 3) := by decide +kernel
theorem dX3_executeCommand_134 : decode cX3_executeCommand 134 = .ok (.iload_n 1, 1) := by decide +kernel
theorem dX3_executeCommand_135 : decode cX3_executeCommand 135 = .ok (.iconst 2, 1) := by decide +kernel
theorem dX3_executeCommand_136 : decode cX3_executeCommand 136 = .ok (.iadd, 1) := by decide +kernel
theorem dX3_executeCommand_137 : decode cX3_executeCommand 137 = .ok (.iconst 4, 1) := by decide +kernel
theorem dX3_executeCommand_138 : decode cX3_executeCommand 138 = .ok (.iadd, 1) := by decide +kernel
theorem dX3_executeCommand_139 : decode cX3_executeCommand 139 = .ok (.iconst 1, 1) := by decide +kernel
theorem dX3_executeCommand_140 : decode cX3_executeCommand 140 = .ok (.invokevirtual 252, 3) := by decide +kernel
theorem dX3_executeCommand_143 : decode cX3_executeCommand 143 = .ok (.invokevirtual 76, 3) := by decide +kernel
theorem dX3_executeCommand_146 : decode cX3_executeCommand 146 = .ok (.ireturn, 1) := by decide +kernel
theorem dX3_executeCommand_147 : decode cX3_executeCommand 147 = .ok (.aload_n 0, 1) := by decide +kernel
theorem dX3_executeCommand_148 : decode cX3_executeCommand 148 = .ok (.aload_n 0, 1) := by decide +kernel
theorem dX3_executeCommand_149 : decode cX3_executeCommand 149 = .ok (.getfield 32, 3) := by decide +kernel
theorem dX3_executeCommand_152 : decode cX3_executeCommand 152 = .ok (.iload_n 1, 1) := by decide +kernel
theorem dX3_executeCommand_153 : decode cX3_executeCommand 153 = .ok (.iconst 1, 1) := by decide +kernel
theorem dX3_executeCommand_154 : decode cX3_executeCommand 154 = .ok (.iadd, 1) := by decide +kernel
theorem dX3_executeCommand_155 : decode cX3_executeCommand 155 = .ok (.aload_n 0, 1) := by decide +kernel
theorem dX3_executeCommand_156 : decode cX3_executeCommand 156 = .ok (.getfield 32, 3) := by decide +kernel
theorem dX3_executeCommand_159 : decode cX3_executeCommand 159 = .ok (.iload_n 1, 1) := by decide +kernel
theorem dX3_executeCommand_160 : decode cX3_executeCommand 160 = .ok (.invokevirtual 258, 3) := by decide +kernel
theorem dX3_executeCommand_163 : decode cX3_executeCommand 163 = .ok (.iload_n 1, 1) := by decide +kernel
theorem dX3_executeCommand_164 : decode cX3_executeCommand 164 = .ok (.isub, 1) := by decide +kernel
theorem dX3_executeCommand_165 : decode cX3_executeCommand 165 = .ok (.iconst 1, 1) := by decide +kernel
theorem dX3_executeCommand_166 : decode cX3_executeCommand 166 = .ok (.isub, 1) := by decide +kernel
theorem dX3_executeCommand_167 : decode cX3_executeCommand 167 = .ok (.invokevirtual 252, 3) := by decide +kernel
theorem dX3_executeCommand_170 : decode cX3_executeCommand 170 = .ok (.invokevirtual 79, 3) := by decide +kernel
theorem dX3_executeCommand_173 : decode cX3_executeCommand 173 = .ok (.ireturn, 1) := by decide +kernel
theorem dX3_executeCommand_174 : decode cX3_executeCommand 174 = .ok (.bipush (-5), 2) := by decide +kernel
theorem dX3_executeCommand_176 : decode cX3_executeCommand 176 = .ok (.ireturn, 1) := by decide +kernel
set_option maxRecDepth 20000 in
theorem ggX3_recorded_X3_isError : GoodIn wsX3_recorded wsX3_isError := goodIn_r _ [5, 6, 7, 4, 8] (by decide +kernel) (by decide +kernel)
set_option maxRecDepth 20000 in
theorem gX3_recorded_X3_isError : GoodIn wsX3_recorded (va_wsS RX3 211 yX3_isError wsX3_isError) := goodIn_app (goodIn_of _ (by decide +kernel)) ggX3_recorded_X3_isError
set_option maxRecDepth 20000 in
theorem ggX3_recorded_X0_keepPrepared : GoodIn wsX3_recorded wsX0_keepPrepared := goodIn_r _ [13, 14, 15, 24, 25, 26] (by decide +kernel) (by decide +kernel)
set_option maxRecDepth 20000 in
theorem gX3_recorded_X0_keepPrepared : GoodIn wsX3_recorded (wsV RX3 261 RX0 yX0_keepPrepared wsX0_keepPrepared) := goodIn_app (goodIn_of _ (by decide +kernel)) ggX3_recorded_X0_keepPrepared
theorem dX3_recorded_0 : decode cX3_recorded 0 = .ok (.iload_n 1, 1) := by decide +kernel
theorem dX3_recorded_1 : decode cX3_recorded 1 = .ok (.invokestatic 211, 3) := by decide +kernel
theorem dX3_recorded_4 : decode cX3_recorded 4 = .ok (.ifCond .ne 10, 3) := by decide +kernel
theorem dX3_recorded_7 : decode cX3_recorded 7 = .ok (.aload_n 0, 1) := by decide +kernel
theorem dX3_recorded_8 : decode cX3_recorded 8 = .ok (.getfield 25, 3) := by decide +kernel
theorem dX3_recorded_11 : decode cX3_recorded 11 = .ok (.invokevirtual 261, 3) := by decide +kernel
theorem dX3_recorded_14 : decode cX3_recorded 14 = .ok (.iload_n 1, 1) := by decide +kernel
theorem dX3_recorded_15 : decode cX3_recorded 15 = .ok (.ireturn, 1) := by decide +kernel
set_option maxRecDepth 20000 in
theorem ggX3_isError_X3_isWithin : GoodIn wsX3_isError wsX3_isWithin := goodIn_r _ [4] (by decide +kernel) (by decide +kernel)
set_option maxRecDepth 20000 in
theorem gX3_isError_X3_isWithin : GoodIn wsX3_isError (va_wsS RX3 59 yX3_isWithin wsX3_isWithin) := goodIn_app (goodIn_of _ (by decide +kernel)) ggX3_isError_X3_isWithin
theorem dX3_isError_0 : decode cX3_isError 0 = .ok (.iload_n 0, 1) := by decide +kernel
theorem dX3_isError_1 : decode cX3_isError 1 = .ok (.bipush (-5), 2) := by decide +kernel
theorem dX3_isError_3 : decode cX3_isError 3 = .ok (.iconst (-1), 1) := by decide +kernel
theorem dX3_isError_4 : decode cX3_isError 4 = .ok (.invokestatic 59, 3) := by decide +kernel
theorem dX3_isError_7 : decode cX3_isError 7 = .ok (.ireturn, 1) := by decide +kernel
theorem dX3_refuseFor_0 : decode cX3_refuseFor 0 = .ok (.aload_n 0, 1) := by decide +kernel
theorem dX3_refuseFor_1 : decode cX3_refuseFor 1 = .ok (.iload_n 1, 1) := by decide +kernel
theorem dX3_refuseFor_2 : decode cX3_refuseFor 2 = .ok (.putfield 40, 3) := by decide +kernel
theorem dX3_refuseFor_5 : decode cX3_refuseFor 5 = .ok (.aload_n 0, 1) := by decide +kernel
theorem dX3_refuseFor_6 : decode cX3_refuseFor 6 = .ok (.iload_n 2, 1) := by decide +kernel
theorem dX3_refuseFor_7 : decode cX3_refuseFor 7 = .ok (.putfield 44, 3) := by decide +kernel
theorem dX3_refuseFor_10 : decode cX3_refuseFor 10 = .ok (.return_, 1) := by decide +kernel
set_option maxRecDepth 20000 in
theorem ggX3_refuseForNoPlace_X1_hasFreePlace : GoodIn wsX3_refuseForNoPlace wsX1_hasFreePlace := goodIn_r _ [6, 7, 8, 9, 5, 10, 11, 27, 28, 29, 30, 31, 32, 33, 34, 35, 36, 37, 38, 39, 40] (by decide +kernel) (by decide +kernel)
set_option maxRecDepth 20000 in
theorem gX3_refuseForNoPlace_X1_hasFreePlace : GoodIn wsX3_refuseForNoPlace (wsV RX3 264 RX1 yX1_hasFreePlace wsX1_hasFreePlace) := goodIn_app (goodIn_of _ (by decide +kernel)) ggX3_refuseForNoPlace_X1_hasFreePlace
set_option maxRecDepth 20000 in
theorem ggX3_refuseForNoPlace_X3_refuseFor : GoodIn wsX3_refuseForNoPlace wsX3_refuseFor := goodIn_r _ [16, 17, 18, 19, 20, 21, 22, 23, 24, 25, 26] (by decide +kernel) (by decide +kernel)
set_option maxRecDepth 20000 in
theorem gX3_refuseForNoPlace_X3_refuseFor : GoodIn wsX3_refuseForNoPlace (wsV RX3 235 RX3 yX3_refuseFor wsX3_refuseFor) := goodIn_app (goodIn_of _ (by decide +kernel)) ggX3_refuseForNoPlace_X3_refuseFor
theorem dX3_refuseForNoPlace_0 : decode cX3_refuseForNoPlace 0 = .ok (.aload_n 0, 1) := by decide +kernel
theorem dX3_refuseForNoPlace_1 : decode cX3_refuseForNoPlace 1 = .ok (.getfield 12, 3) := by decide +kernel
theorem dX3_refuseForNoPlace_4 : decode cX3_refuseForNoPlace 4 = .ok (.iload_n 1, 1) := by decide +kernel
theorem dX3_refuseForNoPlace_5 : decode cX3_refuseForNoPlace 5 = .ok (.iload_n 2, 1) := by decide +kernel
theorem dX3_refuseForNoPlace_6 : decode cX3_refuseForNoPlace 6 = .ok (.invokevirtual 264, 3) := by decide +kernel
theorem dX3_refuseForNoPlace_9 : decode cX3_refuseForNoPlace 9 = .ok (.istore_n 3, 1) := by decide +kernel
theorem dX3_refuseForNoPlace_10 : decode cX3_refuseForNoPlace 10 = .ok (.aload_n 0, 1) := by decide +kernel
theorem dX3_refuseForNoPlace_11 : decode cX3_refuseForNoPlace 11 = .ok (.iconst 1, 1) := by decide +kernel
theorem dX3_refuseForNoPlace_12 : decode cX3_refuseForNoPlace 12 = .ok (.iload_n 3, 1) := by decide +kernel
theorem dX3_refuseForNoPlace_13 : decode cX3_refuseForNoPlace 13 = .ok (.ifCond .eq 7, 3) := by decide +kernel
theorem dX3_refuseForNoPlace_16 : decode cX3_refuseForNoPlace 16 = .ok (.iconst 5, 1) := by decide +kernel
theorem dX3_refuseForNoPlace_17 : decode cX3_refuseForNoPlace 17 = .ok (.goto 5, 3) := by decide +kernel
theorem dX3_refuseForNoPlace_20 : decode cX3_refuseForNoPlace 20 = .ok (.bipush 6, 2) := by decide +kernel
theorem dX3_refuseForNoPlace_22 : decode cX3_refuseForNoPlace 22 = .ok (.invokevirtual 235, 3) := by decide +kernel
theorem dX3_refuseForNoPlace_25 : decode cX3_refuseForNoPlace 25 = .ok (.return_, 1) := by decide +kernel
set_option maxRecDepth 20000 in
theorem ggX3_refuseForNoParcel_X3_indexOfCode : GoodIn wsX3_refuseForNoParcel wsX3_indexOfCode := goodIn_r _ [5, 6, 7, 4, 8, 9, 10, 11, 12, 13, 14, 15, 16, 17] (by decide +kernel) (by decide +kernel)
set_option maxRecDepth 20000 in
theorem gX3_refuseForNoParcel_X3_indexOfCode : GoodIn wsX3_refuseForNoParcel (va_wsS RX3 162 yX3_indexOfCode wsX3_indexOfCode) := goodIn_app (goodIn_of _ (by decide +kernel)) ggX3_refuseForNoParcel_X3_indexOfCode
set_option maxRecDepth 20000 in
theorem ggX3_refuseForNoParcel_X1_rests : GoodIn wsX3_refuseForNoParcel wsX1_rests := goodIn_r _ [22, 23, 24, 25, 40, 41, 42, 43, 44, 45, 46, 47, 48, 49, 50, 51, 52, 53] (by decide +kernel) (by decide +kernel)
set_option maxRecDepth 20000 in
theorem gX3_refuseForNoParcel_X1_rests : GoodIn wsX3_refuseForNoParcel (wsV RX3 171 RX1 yX1_rests wsX1_rests) := goodIn_app (goodIn_of _ (by decide +kernel)) ggX3_refuseForNoParcel_X1_rests
set_option maxRecDepth 20000 in
theorem ggX3_refuseForNoParcel_X3_refuseFor : GoodIn wsX3_refuseForNoParcel wsX3_refuseFor := goodIn_r _ [29, 30, 31, 32, 33, 34, 35, 36, 37, 38, 39] (by decide +kernel) (by decide +kernel)
set_option maxRecDepth 20000 in
theorem gX3_refuseForNoParcel_X3_refuseFor : GoodIn wsX3_refuseForNoParcel (wsV RX3 235 RX3 yX3_refuseFor wsX3_refuseFor) := goodIn_app (goodIn_of _ (by decide +kernel)) ggX3_refuseForNoParcel_X3_refuseFor
theorem dX3_refuseForNoParcel_0 : decode cX3_refuseForNoParcel 0 = .ok (.iload_n 1, 1) := by decide +kernel
theorem dX3_refuseForNoParcel_1 : decode cX3_refuseForNoParcel 1 = .ok (.invokestatic 162, 3) := by decide +kernel
theorem dX3_refuseForNoParcel_4 : decode cX3_refuseForNoParcel 4 = .ok (.istore_n 2, 1) := by decide +kernel
theorem dX3_refuseForNoParcel_5 : decode cX3_refuseForNoParcel 5 = .ok (.iload_n 2, 1) := by decide +kernel
theorem dX3_refuseForNoParcel_6 : decode cX3_refuseForNoParcel 6 = .ok (.ifCond .lt 18, 3) := by decide +kernel
theorem dX3_refuseForNoParcel_9 : decode cX3_refuseForNoParcel 9 = .ok (.aload_n 0, 1) := by decide +kernel
theorem dX3_refuseForNoParcel_10 : decode cX3_refuseForNoParcel 10 = .ok (.getfield 12, 3) := by decide +kernel
theorem dX3_refuseForNoParcel_13 : decode cX3_refuseForNoParcel 13 = .ok (.iload_n 2, 1) := by decide +kernel
theorem dX3_refuseForNoParcel_14 : decode cX3_refuseForNoParcel 14 = .ok (.invokevirtual 171, 3) := by decide +kernel
theorem dX3_refuseForNoParcel_17 : decode cX3_refuseForNoParcel 17 = .ok (.ifCond .eq 7, 3) := by decide +kernel
theorem dX3_refuseForNoParcel_20 : decode cX3_refuseForNoParcel 20 = .ok (.iconst 1, 1) := by decide +kernel
theorem dX3_refuseForNoParcel_21 : decode cX3_refuseForNoParcel 21 = .ok (.goto 4, 3) := by decide +kernel
theorem dX3_refuseForNoParcel_24 : decode cX3_refuseForNoParcel 24 = .ok (.iconst 0, 1) := by decide +kernel
theorem dX3_refuseForNoParcel_25 : decode cX3_refuseForNoParcel 25 = .ok (.istore_n 3, 1) := by decide +kernel
theorem dX3_refuseForNoParcel_26 : decode cX3_refuseForNoParcel 26 = .ok (.aload_n 0, 1) := by decide +kernel
theorem dX3_refuseForNoParcel_27 : decode cX3_refuseForNoParcel 27 = .ok (.iconst 4, 1) := by decide +kernel
theorem dX3_refuseForNoParcel_28 : decode cX3_refuseForNoParcel 28 = .ok (.iload_n 3, 1) := by decide +kernel
theorem dX3_refuseForNoParcel_29 : decode cX3_refuseForNoParcel 29 = .ok (.ifCond .eq 7, 3) := by decide +kernel
theorem dX3_refuseForNoParcel_32 : decode cX3_refuseForNoParcel 32 = .ok (.iconst 5, 1) := by decide +kernel
theorem dX3_refuseForNoParcel_33 : decode cX3_refuseForNoParcel 33 = .ok (.goto 5, 3) := by decide +kernel
theorem dX3_refuseForNoParcel_36 : decode cX3_refuseForNoParcel 36 = .ok (.bipush (-6), 2) := by decide +kernel
theorem dX3_refuseForNoParcel_38 : decode cX3_refuseForNoParcel 38 = .ok (.invokevirtual 235, 3) := by decide +kernel
theorem dX3_refuseForNoParcel_41 : decode cX3_refuseForNoParcel 41 = .ok (.return_, 1) := by decide +kernel
theorem dX3_isWithin_0 : decode cX3_isWithin 0 = .ok (.iload_n 0, 1) := by decide +kernel
theorem dX3_isWithin_1 : decode cX3_isWithin 1 = .ok (.iload_n 1, 1) := by decide +kernel
theorem dX3_isWithin_2 : decode cX3_isWithin 2 = .ok (.if_icmp .lt 12, 3) := by decide +kernel
theorem dX3_isWithin_5 : decode cX3_isWithin 5 = .ok (.iload_n 0, 1) := by decide +kernel
theorem dX3_isWithin_6 : decode cX3_isWithin 6 = .ok (.iload_n 2, 1) := by decide +kernel
theorem dX3_isWithin_7 : decode cX3_isWithin 7 = .ok (.if_icmp .gt 7, 3) := by decide +kernel
theorem dX3_isWithin_10 : decode cX3_isWithin 10 = .ok (.iconst 1, 1) := by decide +kernel
theorem dX3_isWithin_11 : decode cX3_isWithin 11 = .ok (.goto 4, 3) := by decide +kernel
theorem dX3_isWithin_14 : decode cX3_isWithin 14 = .ok (.iconst 0, 1) := by decide +kernel
theorem dX3_isWithin_15 : decode cX3_isWithin 15 = .ok (.ireturn, 1) := by decide +kernel
theorem dX3_sum_0 : decode cX3_sum 0 = .ok (.iconst 0, 1) := by decide +kernel
theorem dX3_sum_1 : decode cX3_sum 1 = .ok (.istore_n 1, 1) := by decide +kernel
theorem dX3_sum_2 : decode cX3_sum 2 = .ok (.aload_n 0, 1) := by decide +kernel
theorem dX3_sum_3 : decode cX3_sum 3 = .ok (.astore_n 2, 1) := by decide +kernel
theorem dX3_sum_4 : decode cX3_sum 4 = .ok (.aload_n 2, 1) := by decide +kernel
theorem dX3_sum_5 : decode cX3_sum 5 = .ok (.arraylength, 1) := by decide +kernel
theorem dX3_sum_6 : decode cX3_sum 6 = .ok (.istore_n 3, 1) := by decide +kernel
theorem dX3_sum_7 : decode cX3_sum 7 = .ok (.iconst 0, 1) := by decide +kernel
theorem dX3_sum_8 : decode cX3_sum 8 = .ok (.istore 4, 2) := by decide +kernel
theorem dX3_sum_10 : decode cX3_sum 10 = .ok (.iload 4, 2) := by decide +kernel
theorem dX3_sum_12 : decode cX3_sum 12 = .ok (.iload_n 3, 1) := by decide +kernel
theorem dX3_sum_13 : decode cX3_sum 13 = .ok (.if_icmp .ge 20, 3) := by decide +kernel
theorem dX3_sum_16 : decode cX3_sum 16 = .ok (.aload_n 2, 1) := by decide +kernel
theorem dX3_sum_17 : decode cX3_sum 17 = .ok (.iload 4, 2) := by decide +kernel
theorem dX3_sum_19 : decode cX3_sum 19 = .ok (.iaload, 1) := by decide +kernel
theorem dX3_sum_20 : decode cX3_sum 20 = .ok (.istore 5, 2) := by decide +kernel
theorem dX3_sum_22 : decode cX3_sum 22 = .ok (.iload_n 1, 1) := by decide +kernel
theorem dX3_sum_23 : decode cX3_sum 23 = .ok (.iload 5, 2) := by decide +kernel
theorem dX3_sum_25 : decode cX3_sum 25 = .ok (.iadd, 1) := by decide +kernel
theorem dX3_sum_26 : decode cX3_sum 26 = .ok (.istore_n 1, 1) := by decide +kernel
theorem dX3_sum_27 : decode cX3_sum 27 = .ok (.iinc 4 1, 3) := by decide +kernel
theorem dX3_sum_30 : decode cX3_sum 30 = .ok (.goto (-20), 3) := by decide +kernel
theorem dX3_sum_33 : decode cX3_sum 33 = .ok (.iload_n 1, 1) := by decide +kernel
theorem dX3_sum_34 : decode cX3_sum 34 = .ok (.ireturn, 1) := by decide +kernel
set_option maxRecDepth 20000 in
theorem ggX3_isPlace_X3_isWithin : GoodIn wsX3_isPlace wsX3_isWithin := goodIn_r _ [4] (by decide +kernel) (by decide +kernel)
set_option maxRecDepth 20000 in
theorem gX3_isPlace_X3_isWithin : GoodIn wsX3_isPlace (va_wsS RX3 59 yX3_isWithin wsX3_isWithin) := goodIn_app (goodIn_of _ (by decide +kernel)) ggX3_isPlace_X3_isWithin
theorem dX3_isPlace_0 : decode cX3_isPlace 0 = .ok (.iload_n 0, 1) := by decide +kernel
theorem dX3_isPlace_1 : decode cX3_isPlace 1 = .ok (.iconst 0, 1) := by decide +kernel
theorem dX3_isPlace_2 : decode cX3_isPlace 2 = .ok (.iconst 5, 1) := by decide +kernel
theorem dX3_isPlace_3 : decode cX3_isPlace 3 = .ok (.invokestatic 59, 3) := by decide +kernel
theorem dX3_isPlace_6 : decode cX3_isPlace 6 = .ok (.ifCond .eq 17, 3) := by decide +kernel
theorem dX3_isPlace_9 : decode cX3_isPlace 9 = .ok (.iload_n 1, 1) := by decide +kernel
theorem dX3_isPlace_10 : decode cX3_isPlace 10 = .ok (.iconst 0, 1) := by decide +kernel
theorem dX3_isPlace_11 : decode cX3_isPlace 11 = .ok (.bipush 7, 2) := by decide +kernel
theorem dX3_isPlace_13 : decode cX3_isPlace 13 = .ok (.invokestatic 59, 3) := by decide +kernel
theorem dX3_isPlace_16 : decode cX3_isPlace 16 = .ok (.ifCond .eq 7, 3) := by decide +kernel
theorem dX3_isPlace_19 : decode cX3_isPlace 19 = .ok (.iconst 1, 1) := by decide +kernel
theorem dX3_isPlace_20 : decode cX3_isPlace 20 = .ok (.goto 4, 3) := by decide +kernel
theorem dX3_isPlace_23 : decode cX3_isPlace 23 = .ok (.iconst 0, 1) := by decide +kernel
theorem dX3_isPlace_24 : decode cX3_isPlace 24 = .ok (.ireturn, 1) := by decide +kernel
theorem dX3_sizeOfShelf_0 : decode cX3_sizeOfShelf 0 = .ok (.iload_n 0, 1) := by decide +kernel
theorem dX3_sizeOfShelf_1 : decode cX3_sizeOfShelf 1 = .ok (.iconst 2, 1) := by decide +kernel
theorem dX3_sizeOfShelf_2 : decode cX3_sizeOfShelf 2 = .ok (.idiv, 1) := by decide +kernel
theorem dX3_sizeOfShelf_3 : decode cX3_sizeOfShelf 3 = .ok (.ireturn, 1) := by decide +kernel
theorem dX3_firstShelfFor_0 : decode cX3_firstShelfFor 0 = .ok (.iload_n 0, 1) := by decide +kernel
theorem dX3_firstShelfFor_1 : decode cX3_firstShelfFor 1 = .ok (.iconst 2, 1) := by decide +kernel
theorem dX3_firstShelfFor_2 : decode cX3_firstShelfFor 2 = .ok (.imul, 1) := by decide +kernel
theorem dX3_firstShelfFor_3 : decode cX3_firstShelfFor 3 = .ok (.ireturn, 1) := by decide +kernel
theorem dX3_checkDigit_0 : decode cX3_checkDigit 0 = .ok (.bipush 10, 2) := by decide +kernel
theorem dX3_checkDigit_2 : decode cX3_checkDigit 2 = .ok (.iconst 3, 1) := by decide +kernel
theorem dX3_checkDigit_3 : decode cX3_checkDigit 3 = .ok (.iload_n 0, 1) := by decide +kernel
theorem dX3_checkDigit_4 : decode cX3_checkDigit 4 = .ok (.imul, 1) := by decide +kernel
theorem dX3_checkDigit_5 : decode cX3_checkDigit 5 = .ok (.iload_n 1, 1) := by decide +kernel
theorem dX3_checkDigit_6 : decode cX3_checkDigit 6 = .ok (.iadd, 1) := by decide +kernel
theorem dX3_checkDigit_7 : decode cX3_checkDigit 7 = .ok (.bipush 7, 2) := by decide +kernel
theorem dX3_checkDigit_9 : decode cX3_checkDigit 9 = .ok (.iload_n 2, 1) := by decide +kernel
theorem dX3_checkDigit_10 : decode cX3_checkDigit 10 = .ok (.imul, 1) := by decide +kernel
theorem dX3_checkDigit_11 : decode cX3_checkDigit 11 = .ok (.iadd, 1) := by decide +kernel
theorem dX3_checkDigit_12 : decode cX3_checkDigit 12 = .ok (.bipush 10, 2) := by decide +kernel
theorem dX3_checkDigit_14 : decode cX3_checkDigit 14 = .ok (.irem, 1) := by decide +kernel
theorem dX3_checkDigit_15 : decode cX3_checkDigit 15 = .ok (.isub, 1) := by decide +kernel
theorem dX3_checkDigit_16 : decode cX3_checkDigit 16 = .ok (.bipush 10, 2) := by decide +kernel
theorem dX3_checkDigit_18 : decode cX3_checkDigit 18 = .ok (.irem, 1) := by decide +kernel
theorem dX3_checkDigit_19 : decode cX3_checkDigit 19 = .ok (.ireturn, 1) := by decide +kernel
theorem dX3_weekdayOf_0 : decode cX3_weekdayOf 0 = .ok (.iload_n 0, 1) := by decide +kernel
theorem dX3_weekdayOf_1 : decode cX3_weekdayOf 1 = .ok (.bipush 7, 2) := by decide +kernel
theorem dX3_weekdayOf_3 : decode cX3_weekdayOf 3 = .ok (.irem, 1) := by decide +kernel
theorem dX3_weekdayOf_4 : decode cX3_weekdayOf 4 = .ok (.iconst 1, 1) := by decide +kernel
theorem dX3_weekdayOf_5 : decode cX3_weekdayOf 5 = .ok (.iadd, 1) := by decide +kernel
theorem dX3_weekdayOf_6 : decode cX3_weekdayOf 6 = .ok (.ireturn, 1) := by decide +kernel
set_option maxRecDepth 20000 in
theorem ggX3_codeFor_X3_checkDigit : GoodIn wsX3_codeFor wsX3_checkDigit := goodIn_r _ [4] (by decide +kernel) (by decide +kernel)
set_option maxRecDepth 20000 in
theorem gX3_codeFor_X3_checkDigit : GoodIn wsX3_codeFor (va_wsS RX3 267 yX3_checkDigit wsX3_checkDigit) := goodIn_app (goodIn_of _ (by decide +kernel)) ggX3_codeFor_X3_checkDigit
theorem dX3_codeFor_0 : decode cX3_codeFor 0 = .ok (.iload_n 1, 1) := by decide +kernel
theorem dX3_codeFor_1 : decode cX3_codeFor 1 = .ok (.bipush 8, 2) := by decide +kernel
theorem dX3_codeFor_3 : decode cX3_codeFor 3 = .ok (.idiv, 1) := by decide +kernel
theorem dX3_codeFor_4 : decode cX3_codeFor 4 = .ok (.istore_n 2, 1) := by decide +kernel
theorem dX3_codeFor_5 : decode cX3_codeFor 5 = .ok (.iload_n 1, 1) := by decide +kernel
theorem dX3_codeFor_6 : decode cX3_codeFor 6 = .ok (.bipush 8, 2) := by decide +kernel
theorem dX3_codeFor_8 : decode cX3_codeFor 8 = .ok (.irem, 1) := by decide +kernel
theorem dX3_codeFor_9 : decode cX3_codeFor 9 = .ok (.istore_n 3, 1) := by decide +kernel
theorem dX3_codeFor_10 : decode cX3_codeFor 10 = .ok (.sipush 1000, 3) := by decide +kernel
theorem dX3_codeFor_13 : decode cX3_codeFor 13 = .ok (.iload_n 0, 1) := by decide +kernel
theorem dX3_codeFor_14 : decode cX3_codeFor 14 = .ok (.imul, 1) := by decide +kernel
theorem dX3_codeFor_15 : decode cX3_codeFor 15 = .ok (.bipush 100, 2) := by decide +kernel
theorem dX3_codeFor_17 : decode cX3_codeFor 17 = .ok (.iload_n 2, 1) := by decide +kernel
theorem dX3_codeFor_18 : decode cX3_codeFor 18 = .ok (.imul, 1) := by decide +kernel
theorem dX3_codeFor_19 : decode cX3_codeFor 19 = .ok (.iadd, 1) := by decide +kernel
theorem dX3_codeFor_20 : decode cX3_codeFor 20 = .ok (.bipush 10, 2) := by decide +kernel
theorem dX3_codeFor_22 : decode cX3_codeFor 22 = .ok (.iload_n 3, 1) := by decide +kernel
theorem dX3_codeFor_23 : decode cX3_codeFor 23 = .ok (.imul, 1) := by decide +kernel
theorem dX3_codeFor_24 : decode cX3_codeFor 24 = .ok (.iadd, 1) := by decide +kernel
theorem dX3_codeFor_25 : decode cX3_codeFor 25 = .ok (.iload_n 0, 1) := by decide +kernel
theorem dX3_codeFor_26 : decode cX3_codeFor 26 = .ok (.iload_n 2, 1) := by decide +kernel
theorem dX3_codeFor_27 : decode cX3_codeFor 27 = .ok (.iload_n 3, 1) := by decide +kernel
theorem dX3_codeFor_28 : decode cX3_codeFor 28 = .ok (.invokestatic 267, 3) := by decide +kernel
theorem dX3_codeFor_31 : decode cX3_codeFor 31 = .ok (.iadd, 1) := by decide +kernel
theorem dX3_codeFor_32 : decode cX3_codeFor 32 = .ok (.ireturn, 1) := by decide +kernel
theorem dX3_indexFor_0 : decode cX3_indexFor 0 = .ok (.iload_n 0, 1) := by decide +kernel
theorem dX3_indexFor_1 : decode cX3_indexFor 1 = .ok (.iconst 1, 1) := by decide +kernel
theorem dX3_indexFor_2 : decode cX3_indexFor 2 = .ok (.isub, 1) := by decide +kernel
theorem dX3_indexFor_3 : decode cX3_indexFor 3 = .ok (.bipush 48, 2) := by decide +kernel
theorem dX3_indexFor_5 : decode cX3_indexFor 5 = .ok (.imul, 1) := by decide +kernel
theorem dX3_indexFor_6 : decode cX3_indexFor 6 = .ok (.iload_n 1, 1) := by decide +kernel
theorem dX3_indexFor_7 : decode cX3_indexFor 7 = .ok (.iadd, 1) := by decide +kernel
theorem dX3_indexFor_8 : decode cX3_indexFor 8 = .ok (.ireturn, 1) := by decide +kernel
set_option maxRecDepth 20000 in
theorem ggX3_indexOfCode_X3_isWithin : GoodIn wsX3_indexOfCode wsX3_isWithin := goodIn_r _ [4] (by decide +kernel) (by decide +kernel)
set_option maxRecDepth 20000 in
theorem gX3_indexOfCode_X3_isWithin : GoodIn wsX3_indexOfCode (va_wsS RX3 59 yX3_isWithin wsX3_isWithin) := goodIn_app (goodIn_of _ (by decide +kernel)) ggX3_indexOfCode_X3_isWithin
set_option maxRecDepth 20000 in
theorem ggX3_indexOfCode_X3_isPlace : GoodIn wsX3_indexOfCode wsX3_isPlace := goodIn_r _ [7, 1, 2, 3, 4] (by decide +kernel) (by decide +kernel)
set_option maxRecDepth 20000 in
theorem gX3_indexOfCode_X3_isPlace : GoodIn wsX3_indexOfCode (va_wsS RX3 103 yX3_isPlace wsX3_isPlace) := goodIn_app (goodIn_of _ (by decide +kernel)) ggX3_indexOfCode_X3_isPlace
set_option maxRecDepth 20000 in
theorem ggX3_indexOfCode_X3_checkDigit : GoodIn wsX3_indexOfCode wsX3_checkDigit := goodIn_r _ [10] (by decide +kernel) (by decide +kernel)
set_option maxRecDepth 20000 in
theorem gX3_indexOfCode_X3_checkDigit : GoodIn wsX3_indexOfCode (va_wsS RX3 267 yX3_checkDigit wsX3_checkDigit) := goodIn_app (goodIn_of _ (by decide +kernel)) ggX3_indexOfCode_X3_checkDigit
set_option maxRecDepth 20000 in
theorem ggX3_indexOfCode_X3_indexFor : GoodIn wsX3_indexOfCode wsX3_indexFor := goodIn_r _ [13] (by decide +kernel) (by decide +kernel)
set_option maxRecDepth 20000 in
theorem gX3_indexOfCode_X3_indexFor : GoodIn wsX3_indexOfCode (va_wsS RX3 271 yX3_indexFor wsX3_indexFor) := goodIn_app (goodIn_of _ (by decide +kernel)) ggX3_indexOfCode_X3_indexFor
theorem dX3_indexOfCode_0 : decode cX3_indexOfCode 0 = .ok (.iload_n 0, 1) := by decide +kernel
theorem dX3_indexOfCode_1 : decode cX3_indexOfCode 1 = .ok (.iconst 0, 1) := by decide +kernel
theorem dX3_indexOfCode_2 : decode cX3_indexOfCode 2 = .ok (.sipush 9999, 3) := by decide +kernel
theorem dX3_indexOfCode_5 : decode cX3_indexOfCode 5 = .ok (.invokestatic 59, 3) := by decide +kernel
theorem dX3_indexOfCode_8 : decode cX3_indexOfCode 8 = .ok (.ifCond .ne 5, 3) := by decide +kernel
theorem dX3_indexOfCode_11 : decode cX3_indexOfCode 11 = .ok (.iconst (-1), 1) := by decide +kernel
theorem dX3_indexOfCode_12 : decode cX3_indexOfCode 12 = .ok (.ireturn, 1) := by decide +kernel
theorem dX3_indexOfCode_13 : decode cX3_indexOfCode 13 = .ok (.iload_n 0, 1) := by decide +kernel
theorem dX3_indexOfCode_14 : decode cX3_indexOfCode 14 = .ok (.sipush 1000, 3) := by decide +kernel
theorem dX3_indexOfCode_17 : decode cX3_indexOfCode 17 = .ok (.idiv, 1) := by decide +kernel
theorem dX3_indexOfCode_18 : decode cX3_indexOfCode 18 = .ok (.istore_n 1, 1) := by decide +kernel
theorem dX3_indexOfCode_19 : decode cX3_indexOfCode 19 = .ok (.iload_n 0, 1) := by decide +kernel
theorem dX3_indexOfCode_20 : decode cX3_indexOfCode 20 = .ok (.bipush 100, 2) := by decide +kernel
theorem dX3_indexOfCode_22 : decode cX3_indexOfCode 22 = .ok (.idiv, 1) := by decide +kernel
theorem dX3_indexOfCode_23 : decode cX3_indexOfCode 23 = .ok (.bipush 10, 2) := by decide +kernel
theorem dX3_indexOfCode_25 : decode cX3_indexOfCode 25 = .ok (.irem, 1) := by decide +kernel
theorem dX3_indexOfCode_26 : decode cX3_indexOfCode 26 = .ok (.istore_n 2, 1) := by decide +kernel
theorem dX3_indexOfCode_27 : decode cX3_indexOfCode 27 = .ok (.iload_n 0, 1) := by decide +kernel
theorem dX3_indexOfCode_28 : decode cX3_indexOfCode 28 = .ok (.bipush 10, 2) := by decide +kernel
theorem dX3_indexOfCode_30 : decode cX3_indexOfCode 30 = .ok (.idiv, 1) := by decide +kernel
theorem dX3_indexOfCode_31 : decode cX3_indexOfCode 31 = .ok (.bipush 10, 2) := by decide +kernel
theorem dX3_indexOfCode_33 : decode cX3_indexOfCode 33 = .ok (.irem, 1) := by decide +kernel
theorem dX3_indexOfCode_34 : decode cX3_indexOfCode 34 = .ok (.istore_n 3, 1) := by decide +kernel
theorem dX3_indexOfCode_35 : decode cX3_indexOfCode 35 = .ok (.iload_n 1, 1) := by decide +kernel
theorem dX3_indexOfCode_36 : decode cX3_indexOfCode 36 = .ok (.iconst 1, 1) := by decide +kernel
theorem dX3_indexOfCode_37 : decode cX3_indexOfCode 37 = .ok (.bipush 7, 2) := by decide +kernel
theorem dX3_indexOfCode_39 : decode cX3_indexOfCode 39 = .ok (.invokestatic 59, 3) := by decide +kernel
theorem dX3_indexOfCode_42 : decode cX3_indexOfCode 42 = .ok (.ifCond .eq 11, 3) := by decide +kernel
theorem dX3_indexOfCode_45 : decode cX3_indexOfCode 45 = .ok (.iload_n 2, 1) := by decide +kernel
theorem dX3_indexOfCode_46 : decode cX3_indexOfCode 46 = .ok (.iload_n 3, 1) := by decide +kernel
theorem dX3_indexOfCode_47 : decode cX3_indexOfCode 47 = .ok (.invokestatic 103, 3) := by decide +kernel
theorem dX3_indexOfCode_50 : decode cX3_indexOfCode 50 = .ok (.ifCond .ne 5, 3) := by decide +kernel
theorem dX3_indexOfCode_53 : decode cX3_indexOfCode 53 = .ok (.iconst (-1), 1) := by decide +kernel
theorem dX3_indexOfCode_54 : decode cX3_indexOfCode 54 = .ok (.ireturn, 1) := by decide +kernel
theorem dX3_indexOfCode_55 : decode cX3_indexOfCode 55 = .ok (.iload_n 0, 1) := by decide +kernel
theorem dX3_indexOfCode_56 : decode cX3_indexOfCode 56 = .ok (.bipush 10, 2) := by decide +kernel
theorem dX3_indexOfCode_58 : decode cX3_indexOfCode 58 = .ok (.irem, 1) := by decide +kernel
theorem dX3_indexOfCode_59 : decode cX3_indexOfCode 59 = .ok (.iload_n 1, 1) := by decide +kernel
theorem dX3_indexOfCode_60 : decode cX3_indexOfCode 60 = .ok (.iload_n 2, 1) := by decide +kernel
theorem dX3_indexOfCode_61 : decode cX3_indexOfCode 61 = .ok (.iload_n 3, 1) := by decide +kernel
theorem dX3_indexOfCode_62 : decode cX3_indexOfCode 62 = .ok (.invokestatic 267, 3) := by decide +kernel
theorem dX3_indexOfCode_65 : decode cX3_indexOfCode 65 = .ok (.if_icmp .eq 5, 3) := by decide +kernel
theorem dX3_indexOfCode_68 : decode cX3_indexOfCode 68 = .ok (.iconst (-1), 1) := by decide +kernel
theorem dX3_indexOfCode_69 : decode cX3_indexOfCode 69 = .ok (.ireturn, 1) := by decide +kernel
theorem dX3_indexOfCode_70 : decode cX3_indexOfCode 70 = .ok (.iload_n 1, 1) := by decide +kernel
theorem dX3_indexOfCode_71 : decode cX3_indexOfCode 71 = .ok (.iload_n 2, 1) := by decide +kernel
theorem dX3_indexOfCode_72 : decode cX3_indexOfCode 72 = .ok (.bipush 8, 2) := by decide +kernel
theorem dX3_indexOfCode_74 : decode cX3_indexOfCode 74 = .ok (.imul, 1) := by decide +kernel
theorem dX3_indexOfCode_75 : decode cX3_indexOfCode 75 = .ok (.iload_n 3, 1) := by decide +kernel
theorem dX3_indexOfCode_76 : decode cX3_indexOfCode 76 = .ok (.iadd, 1) := by decide +kernel
theorem dX3_indexOfCode_77 : decode cX3_indexOfCode 77 = .ok (.invokestatic 271, 3) := by decide +kernel
theorem dX3_indexOfCode_80 : decode cX3_indexOfCode 80 = .ok (.ireturn, 1) := by decide +kernel
theorem dX4_init_0 : decode cX4_init 0 = .ok (.aload_n 0, 1) := by decide +kernel
theorem dX4_init_1 : decode cX4_init 1 = .ok (.invokespecial 1, 3) := by decide +kernel
theorem dX4_init_4 : decode cX4_init 4 = .ok (.aload_n 0, 1) := by decide +kernel
theorem dX4_init_5 : decode cX4_init 5 = .ok (.sipush 580, 3) := by decide +kernel
theorem dX4_init_8 : decode cX4_init 8 = .ok (.newarray .int, 2) := by decide +kernel
theorem dX4_init_10 : decode cX4_init 10 = .ok (.putfield 7, 3) := by decide +kernel
theorem dX4_init_13 : decode cX4_init 13 = .ok (.aload_n 0, 1) := by decide +kernel
theorem dX4_init_14 : decode cX4_init 14 = .ok (.sipush 2900, 3) := by decide +kernel
theorem dX4_init_17 : decode cX4_init 17 = .ok (.newarray .int, 2) := by decide +kernel
theorem dX4_init_19 : decode cX4_init 19 = .ok (.putfield 13, 3) := by decide +kernel
theorem dX4_init_22 : decode cX4_init 22 = .ok (.aload_n 0, 1) := by decide +kernel
theorem dX4_init_23 : decode cX4_init 23 = .ok (.sipush 580, 3) := by decide +kernel
theorem dX4_init_26 : decode cX4_init 26 = .ok (.newarray .int, 2) := by decide +kernel
theorem dX4_init_28 : decode cX4_init 28 = .ok (.putfield 16, 3) := by decide +kernel
theorem dX4_init_31 : decode cX4_init 31 = .ok (.aload_n 0, 1) := by decide +kernel
theorem dX4_init_32 : decode cX4_init 32 = .ok (.sipush 580, 3) := by decide +kernel
theorem dX4_init_35 : decode cX4_init 35 = .ok (.newarray .int, 2) := by decide +kernel
theorem dX4_init_37 : decode cX4_init 37 = .ok (.putfield 19, 3) := by decide +kernel
theorem dX4_init_40 : decode cX4_init 40 = .ok (.aload_n 0, 1) := by decide +kernel
theorem dX4_init_41 : decode cX4_init 41 = .ok (.bipush (-6), 2) := by decide +kernel
theorem dX4_init_43 : decode cX4_init 43 = .ok (.putfield 22, 3) := by decide +kernel
theorem dX4_init_46 : decode cX4_init 46 = .ok (.aload_n 0, 1) := by decide +kernel
theorem dX4_init_47 : decode cX4_init 47 = .ok (.bipush (-6), 2) := by decide +kernel
theorem dX4_init_49 : decode cX4_init 49 = .ok (.putfield 26, 3) := by decide +kernel
theorem dX4_init_52 : decode cX4_init 52 = .ok (.aload_n 0, 1) := by decide +kernel
theorem dX4_init_53 : decode cX4_init 53 = .ok (.bipush 80, 2) := by decide +kernel
theorem dX4_init_55 : decode cX4_init 55 = .ok (.newarray .char, 2) := by decide +kernel
theorem dX4_init_57 : decode cX4_init 57 = .ok (.putfield 29, 3) := by decide +kernel
theorem dX4_init_60 : decode cX4_init 60 = .ok (.aload_n 0, 1) := by decide +kernel
theorem dX4_init_61 : decode cX4_init 61 = .ok (.bipush 84, 2) := by decide +kernel
theorem dX4_init_63 : decode cX4_init 63 = .ok (.newarray .int, 2) := by decide +kernel
theorem dX4_init_65 : decode cX4_init 65 = .ok (.putfield 33, 3) := by decide +kernel
theorem dX4_init_68 : decode cX4_init 68 = .ok (.aload_n 0, 1) := by decide +kernel
theorem dX4_init_69 : decode cX4_init 69 = .ok (.getfield 7, 3) := by decide +kernel
theorem dX4_init_72 : decode cX4_init 72 = .ok (.iconst 0, 1) := by decide +kernel
theorem dX4_init_73 : decode cX4_init 73 = .ok (.iconst 5, 1) := by decide +kernel
theorem dX4_init_74 : decode cX4_init 74 = .ok (.iastore, 1) := by decide +kernel
theorem dX4_init_75 : decode cX4_init 75 = .ok (.aload_n 0, 1) := by decide +kernel
theorem dX4_init_76 : decode cX4_init 76 = .ok (.getfield 7, 3) := by decide +kernel
theorem dX4_init_79 : decode cX4_init 79 = .ok (.iconst 1, 1) := by decide +kernel
theorem dX4_init_80 : decode cX4_init 80 = .ok (.iconst 2, 1) := by decide +kernel
theorem dX4_init_81 : decode cX4_init 81 = .ok (.iastore, 1) := by decide +kernel
theorem dX4_init_82 : decode cX4_init 82 = .ok (.aload_n 0, 1) := by decide +kernel
theorem dX4_init_83 : decode cX4_init 83 = .ok (.getfield 7, 3) := by decide +kernel
theorem dX4_init_86 : decode cX4_init 86 = .ok (.iconst 2, 1) := by decide +kernel
theorem dX4_init_87 : decode cX4_init 87 = .ok (.bipush 10, 2) := by decide +kernel
theorem dX4_init_89 : decode cX4_init 89 = .ok (.iastore, 1) := by decide +kernel
theorem dX4_init_90 : decode cX4_init 90 = .ok (.aload_n 0, 1) := by decide +kernel
theorem dX4_init_91 : decode cX4_init 91 = .ok (.getfield 7, 3) := by decide +kernel
theorem dX4_init_94 : decode cX4_init 94 = .ok (.iconst 3, 1) := by decide +kernel
theorem dX4_init_95 : decode cX4_init 95 = .ok (.bipush 7, 2) := by decide +kernel
theorem dX4_init_97 : decode cX4_init 97 = .ok (.iastore, 1) := by decide +kernel
theorem dX4_init_98 : decode cX4_init 98 = .ok (.aload_n 0, 1) := by decide +kernel
theorem dX4_init_99 : decode cX4_init 99 = .ok (.getfield 7, 3) := by decide +kernel
theorem dX4_init_102 : decode cX4_init 102 = .ok (.iconst 4, 1) := by decide +kernel
theorem dX4_init_103 : decode cX4_init 103 = .ok (.iconst 2, 1) := by decide +kernel
theorem dX4_init_104 : decode cX4_init 104 = .ok (.iastore, 1) := by decide +kernel
theorem dX4_init_105 : decode cX4_init 105 = .ok (.iconst 0, 1) := by decide +kernel
theorem dX4_init_106 : decode cX4_init 106 = .ok (.istore_n 1, 1) := by decide +kernel
theorem dX4_init_107 : decode cX4_init 107 = .ok (.iload_n 1, 1) := by decide +kernel
theorem dX4_init_108 : decode cX4_init 108 = .ok (.sipush 336, 3) := by decide +kernel
theorem dX4_init_111 : decode cX4_init 111 = .ok (.if_icmp .ge 21, 3) := by decide +kernel
theorem dX4_init_114 : decode cX4_init 114 = .ok (.aload_n 0, 1) := by decide +kernel
theorem dX4_init_115 : decode cX4_init 115 = .ok (.getfield 7, 3) := by decide +kernel
theorem dX4_init_118 : decode cX4_init 118 = .ok (.sipush 204, 3) := by decide +kernel
theorem dX4_init_121 : decode cX4_init 121 = .ok (.iload_n 1, 1) := by decide +kernel
theorem dX4_init_122 : decode cX4_init 122 = .ok (.iadd, 1) := by decide +kernel
theorem dX4_init_123 : decode cX4_init 123 = .ok (.bipush (-6), 2) := by decide +kernel
theorem dX4_init_125 : decode cX4_init 125 = .ok (.iastore, 1) := by decide +kernel
theorem dX4_init_126 : decode cX4_init 126 = .ok (.iinc 1 1, 3) := by decide +kernel
theorem dX4_init_129 : decode cX4_init 129 = .ok (.goto (-22), 3) := by decide +kernel
theorem dX4_init_132 : decode cX4_init 132 = .ok (.return_, 1) := by decide +kernel
theorem dX4_in_0 : decode cX4_in 0 = .ok (.iload_n 0, 1) := by decide +kernel
theorem dX4_in_1 : decode cX4_in 1 = .ok (.iload_n 1, 1) := by decide +kernel
theorem dX4_in_2 : decode cX4_in 2 = .ok (.if_icmp .lt 12, 3) := by decide +kernel
theorem dX4_in_5 : decode cX4_in 5 = .ok (.iload_n 0, 1) := by decide +kernel
theorem dX4_in_6 : decode cX4_in 6 = .ok (.iload_n 2, 1) := by decide +kernel
theorem dX4_in_7 : decode cX4_in 7 = .ok (.if_icmp .gt 7, 3) := by decide +kernel
theorem dX4_in_10 : decode cX4_in 10 = .ok (.iconst 1, 1) := by decide +kernel
theorem dX4_in_11 : decode cX4_in 11 = .ok (.goto 4, 3) := by decide +kernel
theorem dX4_in_14 : decode cX4_in 14 = .ok (.iconst 0, 1) := by decide +kernel
theorem dX4_in_15 : decode cX4_in 15 = .ok (.ireturn, 1) := by decide +kernel
theorem dX4_record_0 : decode cX4_record 0 = .ok (.aload_n 0, 1) := by decide +kernel
theorem dX4_record_1 : decode cX4_record 1 = .ok (.getfield 36, 3) := by decide +kernel
theorem dX4_record_4 : decode cX4_record 4 = .ok (.iconst 5, 1) := by decide +kernel
theorem dX4_record_5 : decode cX4_record 5 = .ok (.if_icmp .ne 44, 3) := by decide +kernel
theorem dX4_record_8 : decode cX4_record 8 = .ok (.iconst 0, 1) := by decide +kernel
theorem dX4_record_9 : decode cX4_record 9 = .ok (.istore_n 1, 1) := by decide +kernel
theorem dX4_record_10 : decode cX4_record 10 = .ok (.iload_n 1, 1) := by decide +kernel
theorem dX4_record_11 : decode cX4_record 11 = .ok (.sipush 2320, 3) := by decide +kernel
theorem dX4_record_14 : decode cX4_record 14 = .ok (.if_icmp .ge 25, 3) := by decide +kernel
theorem dX4_record_17 : decode cX4_record 17 = .ok (.aload_n 0, 1) := by decide +kernel
theorem dX4_record_18 : decode cX4_record 18 = .ok (.getfield 13, 3) := by decide +kernel
theorem dX4_record_21 : decode cX4_record 21 = .ok (.iload_n 1, 1) := by decide +kernel
theorem dX4_record_22 : decode cX4_record 22 = .ok (.aload_n 0, 1) := by decide +kernel
theorem dX4_record_23 : decode cX4_record 23 = .ok (.getfield 13, 3) := by decide +kernel
theorem dX4_record_26 : decode cX4_record 26 = .ok (.iload_n 1, 1) := by decide +kernel
theorem dX4_record_27 : decode cX4_record 27 = .ok (.sipush 580, 3) := by decide +kernel
theorem dX4_record_30 : decode cX4_record 30 = .ok (.iadd, 1) := by decide +kernel
theorem dX4_record_31 : decode cX4_record 31 = .ok (.iaload, 1) := by decide +kernel
theorem dX4_record_32 : decode cX4_record 32 = .ok (.iastore, 1) := by decide +kernel
theorem dX4_record_33 : decode cX4_record 33 = .ok (.iinc 1 1, 3) := by decide +kernel
theorem dX4_record_36 : decode cX4_record 36 = .ok (.goto (-26), 3) := by decide +kernel
theorem dX4_record_39 : decode cX4_record 39 = .ok (.aload_n 0, 1) := by decide +kernel
theorem dX4_record_40 : decode cX4_record 40 = .ok (.dup, 1) := by decide +kernel
theorem dX4_record_41 : decode cX4_record 41 = .ok (.getfield 36, 3) := by decide +kernel
theorem dX4_record_44 : decode cX4_record 44 = .ok (.iconst 1, 1) := by decide +kernel
theorem dX4_record_45 : decode cX4_record 45 = .ok (.isub, 1) := by decide +kernel
theorem dX4_record_46 : decode cX4_record 46 = .ok (.putfield 36, 3) := by decide +kernel
theorem dX4_record_49 : decode cX4_record 49 = .ok (.iconst 0, 1) := by decide +kernel
theorem dX4_record_50 : decode cX4_record 50 = .ok (.istore_n 1, 1) := by decide +kernel
theorem dX4_record_51 : decode cX4_record 51 = .ok (.iload_n 1, 1) := by decide +kernel
theorem dX4_record_52 : decode cX4_record 52 = .ok (.sipush 580, 3) := by decide +kernel
theorem dX4_record_55 : decode cX4_record 55 = .ok (.if_icmp .ge 30, 3) := by decide +kernel
theorem dX4_record_58 : decode cX4_record 58 = .ok (.aload_n 0, 1) := by decide +kernel
theorem dX4_record_59 : decode cX4_record 59 = .ok (.getfield 13, 3) := by decide +kernel
theorem dX4_record_62 : decode cX4_record 62 = .ok (.aload_n 0, 1) := by decide +kernel
theorem dX4_record_63 : decode cX4_record 63 = .ok (.getfield 36, 3) := by decide +kernel
theorem dX4_record_66 : decode cX4_record 66 = .ok (.sipush 580, 3) := by decide +kernel
theorem dX4_record_69 : decode cX4_record 69 = .ok (.imul, 1) := by decide +kernel
theorem dX4_record_70 : decode cX4_record 70 = .ok (.iload_n 1, 1) := by decide +kernel
theorem dX4_record_71 : decode cX4_record 71 = .ok (.iadd, 1) := by decide +kernel
theorem dX4_record_72 : decode cX4_record 72 = .ok (.aload_n 0, 1) := by decide +kernel
theorem dX4_record_73 : decode cX4_record 73 = .ok (.getfield 7, 3) := by decide +kernel
theorem dX4_record_76 : decode cX4_record 76 = .ok (.iload_n 1, 1) := by decide +kernel
theorem dX4_record_77 : decode cX4_record 77 = .ok (.iaload, 1) := by decide +kernel
theorem dX4_record_78 : decode cX4_record 78 = .ok (.iastore, 1) := by decide +kernel
theorem dX4_record_79 : decode cX4_record 79 = .ok (.iinc 1 1, 3) := by decide +kernel
theorem dX4_record_82 : decode cX4_record 82 = .ok (.goto (-31), 3) := by decide +kernel
theorem dX4_record_85 : decode cX4_record 85 = .ok (.aload_n 0, 1) := by decide +kernel
theorem dX4_record_86 : decode cX4_record 86 = .ok (.dup, 1) := by decide +kernel
theorem dX4_record_87 : decode cX4_record 87 = .ok (.getfield 36, 3) := by decide +kernel
theorem dX4_record_90 : decode cX4_record 90 = .ok (.iconst 1, 1) := by decide +kernel
theorem dX4_record_91 : decode cX4_record 91 = .ok (.iadd, 1) := by decide +kernel
theorem dX4_record_92 : decode cX4_record 92 = .ok (.putfield 36, 3) := by decide +kernel
theorem dX4_record_95 : decode cX4_record 95 = .ok (.return_, 1) := by decide +kernel
theorem dX4_undo_0 : decode cX4_undo 0 = .ok (.aload_n 0, 1) := by decide +kernel
theorem dX4_undo_1 : decode cX4_undo 1 = .ok (.getfield 36, 3) := by decide +kernel
theorem dX4_undo_4 : decode cX4_undo 4 = .ok (.ifCond .ne 6, 3) := by decide +kernel
theorem dX4_undo_7 : decode cX4_undo 7 = .ok (.bipush (-3), 2) := by decide +kernel
theorem dX4_undo_9 : decode cX4_undo 9 = .ok (.ireturn, 1) := by decide +kernel
theorem dX4_undo_10 : decode cX4_undo 10 = .ok (.aload_n 0, 1) := by decide +kernel
theorem dX4_undo_11 : decode cX4_undo 11 = .ok (.dup, 1) := by decide +kernel
theorem dX4_undo_12 : decode cX4_undo 12 = .ok (.getfield 36, 3) := by decide +kernel
theorem dX4_undo_15 : decode cX4_undo 15 = .ok (.iconst 1, 1) := by decide +kernel
theorem dX4_undo_16 : decode cX4_undo 16 = .ok (.isub, 1) := by decide +kernel
theorem dX4_undo_17 : decode cX4_undo 17 = .ok (.putfield 36, 3) := by decide +kernel
theorem dX4_undo_20 : decode cX4_undo 20 = .ok (.iconst 0, 1) := by decide +kernel
theorem dX4_undo_21 : decode cX4_undo 21 = .ok (.istore_n 1, 1) := by decide +kernel
theorem dX4_undo_22 : decode cX4_undo 22 = .ok (.iload_n 1, 1) := by decide +kernel
theorem dX4_undo_23 : decode cX4_undo 23 = .ok (.sipush 580, 3) := by decide +kernel
theorem dX4_undo_26 : decode cX4_undo 26 = .ok (.if_icmp .ge 30, 3) := by decide +kernel
theorem dX4_undo_29 : decode cX4_undo 29 = .ok (.aload_n 0, 1) := by decide +kernel
theorem dX4_undo_30 : decode cX4_undo 30 = .ok (.getfield 7, 3) := by decide +kernel
theorem dX4_undo_33 : decode cX4_undo 33 = .ok (.iload_n 1, 1) := by decide +kernel
theorem dX4_undo_34 : decode cX4_undo 34 = .ok (.aload_n 0, 1) := by decide +kernel
theorem dX4_undo_35 : decode cX4_undo 35 = .ok (.getfield 13, 3) := by decide +kernel
theorem dX4_undo_38 : decode cX4_undo 38 = .ok (.aload_n 0, 1) := by decide +kernel
theorem dX4_undo_39 : decode cX4_undo 39 = .ok (.getfield 36, 3) := by decide +kernel
theorem dX4_undo_42 : decode cX4_undo 42 = .ok (.sipush 580, 3) := by decide +kernel
theorem dX4_undo_45 : decode cX4_undo 45 = .ok (.imul, 1) := by decide +kernel
theorem dX4_undo_46 : decode cX4_undo 46 = .ok (.iload_n 1, 1) := by decide +kernel
theorem dX4_undo_47 : decode cX4_undo 47 = .ok (.iadd, 1) := by decide +kernel
theorem dX4_undo_48 : decode cX4_undo 48 = .ok (.iaload, 1) := by decide +kernel
theorem dX4_undo_49 : decode cX4_undo 49 = .ok (.iastore, 1) := by decide +kernel
theorem dX4_undo_50 : decode cX4_undo 50 = .ok (.iinc 1 1, 3) := by decide +kernel
theorem dX4_undo_53 : decode cX4_undo 53 = .ok (.goto (-31), 3) := by decide +kernel
theorem dX4_undo_56 : decode cX4_undo 56 = .ok (.aload_n 0, 1) := by decide +kernel
theorem dX4_undo_57 : decode cX4_undo 57 = .ok (.getfield 36, 3) := by decide +kernel
theorem dX4_undo_60 : decode cX4_undo 60 = .ok (.ireturn, 1) := by decide +kernel
set_option maxRecDepth 20000 in
theorem ggX4_save_X4_parcels : GoodIn wsX4_save wsX4_parcels := goodIn_r _ [8, 9, 10, 11, 7, 12, 13, 14, 15, 16, 3, 17, 18, 19, 20, 21, 22, 23, 24, 25, 26, 27, 28, 29, 30] (by decide +kernel) (by decide +kernel)
set_option maxRecDepth 20000 in
theorem gX4_save_X4_parcels : GoodIn wsX4_save (wsV RX4 43 RX4 yX4_parcels wsX4_parcels) := goodIn_app (goodIn_of _ (by decide +kernel)) ggX4_save_X4_parcels
theorem dX4_save_0 : decode cX4_save 0 = .ok (.aload_n 0, 1) := by decide +kernel
theorem dX4_save_1 : decode cX4_save 1 = .ok (.iconst 1, 1) := by decide +kernel
theorem dX4_save_2 : decode cX4_save 2 = .ok (.putfield 39, 3) := by decide +kernel
theorem dX4_save_5 : decode cX4_save 5 = .ok (.iconst 0, 1) := by decide +kernel
theorem dX4_save_6 : decode cX4_save 6 = .ok (.istore_n 1, 1) := by decide +kernel
theorem dX4_save_7 : decode cX4_save 7 = .ok (.iload_n 1, 1) := by decide +kernel
theorem dX4_save_8 : decode cX4_save 8 = .ok (.sipush 580, 3) := by decide +kernel
theorem dX4_save_11 : decode cX4_save 11 = .ok (.if_icmp .ge 21, 3) := by decide +kernel
theorem dX4_save_14 : decode cX4_save 14 = .ok (.aload_n 0, 1) := by decide +kernel
theorem dX4_save_15 : decode cX4_save 15 = .ok (.getfield 16, 3) := by decide +kernel
theorem dX4_save_18 : decode cX4_save 18 = .ok (.iload_n 1, 1) := by decide +kernel
theorem dX4_save_19 : decode cX4_save 19 = .ok (.aload_n 0, 1) := by decide +kernel
theorem dX4_save_20 : decode cX4_save 20 = .ok (.getfield 7, 3) := by decide +kernel
theorem dX4_save_23 : decode cX4_save 23 = .ok (.iload_n 1, 1) := by decide +kernel
theorem dX4_save_24 : decode cX4_save 24 = .ok (.iaload, 1) := by decide +kernel
theorem dX4_save_25 : decode cX4_save 25 = .ok (.iastore, 1) := by decide +kernel
theorem dX4_save_26 : decode cX4_save 26 = .ok (.iinc 1 1, 3) := by decide +kernel
theorem dX4_save_29 : decode cX4_save 29 = .ok (.goto (-22), 3) := by decide +kernel
theorem dX4_save_32 : decode cX4_save 32 = .ok (.aload_n 0, 1) := by decide +kernel
theorem dX4_save_33 : decode cX4_save 33 = .ok (.invokevirtual 43, 3) := by decide +kernel
theorem dX4_save_36 : decode cX4_save 36 = .ok (.ireturn, 1) := by decide +kernel
set_option maxRecDepth 20000 in
theorem ggX4_restore_X4_record : GoodIn wsX4_restore wsX4_record := goodIn_r _ [8, 9, 10, 2, 23, 24, 25, 26, 27, 28, 29, 30, 31, 32, 33, 34, 35, 36] (by decide +kernel) (by decide +kernel)
set_option maxRecDepth 20000 in
theorem gX4_restore_X4_record : GoodIn wsX4_restore (wsV RX4 47 RX4 yX4_record wsX4_record) := goodIn_app (goodIn_of _ (by decide +kernel)) ggX4_restore_X4_record
set_option maxRecDepth 20000 in
theorem ggX4_restore_X4_parcels : GoodIn wsX4_restore wsX4_parcels := goodIn_r _ [14, 15, 16, 17, 7, 18, 19, 20, 21, 22, 2, 23, 24, 25, 26, 27, 28, 29, 30, 31, 32, 33, 34, 35, 36] (by decide +kernel) (by decide +kernel)
set_option maxRecDepth 20000 in
theorem gX4_restore_X4_parcels : GoodIn wsX4_restore (wsV RX4 43 RX4 yX4_parcels wsX4_parcels) := goodIn_app (goodIn_of _ (by decide +kernel)) ggX4_restore_X4_parcels
theorem dX4_restore_0 : decode cX4_restore 0 = .ok (.aload_n 0, 1) := by decide +kernel
theorem dX4_restore_1 : decode cX4_restore 1 = .ok (.getfield 39, 3) := by decide +kernel
theorem dX4_restore_4 : decode cX4_restore 4 = .ok (.ifCond .ne 6, 3) := by decide +kernel
theorem dX4_restore_7 : decode cX4_restore 7 = .ok (.bipush (-3), 2) := by decide +kernel
theorem dX4_restore_9 : decode cX4_restore 9 = .ok (.ireturn, 1) := by decide +kernel
theorem dX4_restore_10 : decode cX4_restore 10 = .ok (.aload_n 0, 1) := by decide +kernel
theorem dX4_restore_11 : decode cX4_restore 11 = .ok (.invokevirtual 47, 3) := by decide +kernel
theorem dX4_restore_14 : decode cX4_restore 14 = .ok (.iconst 0, 1) := by decide +kernel
theorem dX4_restore_15 : decode cX4_restore 15 = .ok (.istore_n 1, 1) := by decide +kernel
theorem dX4_restore_16 : decode cX4_restore 16 = .ok (.iload_n 1, 1) := by decide +kernel
theorem dX4_restore_17 : decode cX4_restore 17 = .ok (.sipush 580, 3) := by decide +kernel
theorem dX4_restore_20 : decode cX4_restore 20 = .ok (.if_icmp .ge 21, 3) := by decide +kernel
theorem dX4_restore_23 : decode cX4_restore 23 = .ok (.aload_n 0, 1) := by decide +kernel
theorem dX4_restore_24 : decode cX4_restore 24 = .ok (.getfield 7, 3) := by decide +kernel
theorem dX4_restore_27 : decode cX4_restore 27 = .ok (.iload_n 1, 1) := by decide +kernel
theorem dX4_restore_28 : decode cX4_restore 28 = .ok (.aload_n 0, 1) := by decide +kernel
theorem dX4_restore_29 : decode cX4_restore 29 = .ok (.getfield 16, 3) := by decide +kernel
theorem dX4_restore_32 : decode cX4_restore 32 = .ok (.iload_n 1, 1) := by decide +kernel
theorem dX4_restore_33 : decode cX4_restore 33 = .ok (.iaload, 1) := by decide +kernel
theorem dX4_restore_34 : decode cX4_restore 34 = .ok (.iastore, 1) := by decide +kernel
theorem dX4_restore_35 : decode cX4_restore 35 = .ok (.iinc 1 1, 3) := by decide +kernel
theorem dX4_restore_38 : decode cX4_restore 38 = .ok (.goto (-22), 3) := by decide +kernel
theorem dX4_restore_41 : decode cX4_restore 41 = .ok (.aload_n 0, 1) := by decide +kernel
theorem dX4_restore_42 : decode cX4_restore 42 = .ok (.invokevirtual 43, 3) := by decide +kernel
theorem dX4_restore_45 : decode cX4_restore 45 = .ok (.ireturn, 1) := by decide +kernel
theorem dX4_putAside_0 : decode cX4_putAside 0 = .ok (.iconst 0, 1) := by decide +kernel
theorem dX4_putAside_1 : decode cX4_putAside 1 = .ok (.istore_n 1, 1) := by decide +kernel
theorem dX4_putAside_2 : decode cX4_putAside 2 = .ok (.iload_n 1, 1) := by decide +kernel
theorem dX4_putAside_3 : decode cX4_putAside 3 = .ok (.sipush 580, 3) := by decide +kernel
theorem dX4_putAside_6 : decode cX4_putAside 6 = .ok (.if_icmp .ge 21, 3) := by decide +kernel
theorem dX4_putAside_9 : decode cX4_putAside 9 = .ok (.aload_n 0, 1) := by decide +kernel
theorem dX4_putAside_10 : decode cX4_putAside 10 = .ok (.getfield 19, 3) := by decide +kernel
theorem dX4_putAside_13 : decode cX4_putAside 13 = .ok (.iload_n 1, 1) := by decide +kernel
theorem dX4_putAside_14 : decode cX4_putAside 14 = .ok (.aload_n 0, 1) := by decide +kernel
theorem dX4_putAside_15 : decode cX4_putAside 15 = .ok (.getfield 7, 3) := by decide +kernel
theorem dX4_putAside_18 : decode cX4_putAside 18 = .ok (.iload_n 1, 1) := by decide +kernel
theorem dX4_putAside_19 : decode cX4_putAside 19 = .ok (.iaload, 1) := by decide +kernel
theorem dX4_putAside_20 : decode cX4_putAside 20 = .ok (.iastore, 1) := by decide +kernel
theorem dX4_putAside_21 : decode cX4_putAside 21 = .ok (.iinc 1 1, 3) := by decide +kernel
theorem dX4_putAside_24 : decode cX4_putAside 24 = .ok (.goto (-22), 3) := by decide +kernel
theorem dX4_putAside_27 : decode cX4_putAside 27 = .ok (.return_, 1) := by decide +kernel
theorem dX4_takeBack_0 : decode cX4_takeBack 0 = .ok (.iconst 0, 1) := by decide +kernel
theorem dX4_takeBack_1 : decode cX4_takeBack 1 = .ok (.istore_n 1, 1) := by decide +kernel
theorem dX4_takeBack_2 : decode cX4_takeBack 2 = .ok (.iload_n 1, 1) := by decide +kernel
theorem dX4_takeBack_3 : decode cX4_takeBack 3 = .ok (.sipush 580, 3) := by decide +kernel
theorem dX4_takeBack_6 : decode cX4_takeBack 6 = .ok (.if_icmp .ge 21, 3) := by decide +kernel
theorem dX4_takeBack_9 : decode cX4_takeBack 9 = .ok (.aload_n 0, 1) := by decide +kernel
theorem dX4_takeBack_10 : decode cX4_takeBack 10 = .ok (.getfield 7, 3) := by decide +kernel
theorem dX4_takeBack_13 : decode cX4_takeBack 13 = .ok (.iload_n 1, 1) := by decide +kernel
theorem dX4_takeBack_14 : decode cX4_takeBack 14 = .ok (.aload_n 0, 1) := by decide +kernel
theorem dX4_takeBack_15 : decode cX4_takeBack 15 = .ok (.getfield 19, 3) := by decide +kernel
theorem dX4_takeBack_18 : decode cX4_takeBack 18 = .ok (.iload_n 1, 1) := by decide +kernel
theorem dX4_takeBack_19 : decode cX4_takeBack 19 = .ok (.iaload, 1) := by decide +kernel
theorem dX4_takeBack_20 : decode cX4_takeBack 20 = .ok (.iastore, 1) := by decide +kernel
theorem dX4_takeBack_21 : decode cX4_takeBack 21 = .ok (.iinc 1 1, 3) := by decide +kernel
theorem dX4_takeBack_24 : decode cX4_takeBack 24 = .ok (.goto (-22), 3) := by decide +kernel
theorem dX4_takeBack_27 : decode cX4_takeBack 27 = .ok (.return_, 1) := by decide +kernel
set_option maxRecDepth 20000 in
theorem ggX4_isInRange_X4_in : GoodIn wsX4_isInRange wsX4_in := goodIn_r _ [4] (by decide +kernel) (by decide +kernel)
set_option maxRecDepth 20000 in
theorem gX4_isInRange_X4_in : GoodIn wsX4_isInRange (va_wsS RX4 50 yX4_in wsX4_in) := goodIn_app (goodIn_of _ (by decide +kernel)) ggX4_isInRange_X4_in
theorem dX4_isInRange_0 : decode cX4_isInRange 0 = .ok (.iload_n 0, 1) := by decide +kernel
theorem dX4_isInRange_1 : decode cX4_isInRange 1 = .ok (.tableswitch 75 0 4 #[35, 43, 51, 59, 67], 35) := by decide +kernel
theorem dX4_isInRange_36 : decode cX4_isInRange 36 = .ok (.iload_n 1, 1) := by decide +kernel
theorem dX4_isInRange_37 : decode cX4_isInRange 37 = .ok (.iconst 0, 1) := by decide +kernel
theorem dX4_isInRange_38 : decode cX4_isInRange 38 = .ok (.bipush 20, 2) := by decide +kernel
theorem dX4_isInRange_40 : decode cX4_isInRange 40 = .ok (.invokestatic 50, 3) := by decide +kernel
theorem dX4_isInRange_43 : decode cX4_isInRange 43 = .ok (.ireturn, 1) := by decide +kernel
theorem dX4_isInRange_44 : decode cX4_isInRange 44 = .ok (.iload_n 1, 1) := by decide +kernel
theorem dX4_isInRange_45 : decode cX4_isInRange 45 = .ok (.iconst 0, 1) := by decide +kernel
theorem dX4_isInRange_46 : decode cX4_isInRange 46 = .ok (.bipush 9, 2) := by decide +kernel
theorem dX4_isInRange_48 : decode cX4_isInRange 48 = .ok (.invokestatic 50, 3) := by decide +kernel
theorem dX4_isInRange_51 : decode cX4_isInRange 51 = .ok (.ireturn, 1) := by decide +kernel
theorem dX4_isInRange_52 : decode cX4_isInRange 52 = .ok (.iload_n 1, 1) := by decide +kernel
theorem dX4_isInRange_53 : decode cX4_isInRange 53 = .ok (.iconst 0, 1) := by decide +kernel
theorem dX4_isInRange_54 : decode cX4_isInRange 54 = .ok (.bipush 50, 2) := by decide +kernel
theorem dX4_isInRange_56 : decode cX4_isInRange 56 = .ok (.invokestatic 50, 3) := by decide +kernel
theorem dX4_isInRange_59 : decode cX4_isInRange 59 = .ok (.ireturn, 1) := by decide +kernel
theorem dX4_isInRange_60 : decode cX4_isInRange 60 = .ok (.iload_n 1, 1) := by decide +kernel
theorem dX4_isInRange_61 : decode cX4_isInRange 61 = .ok (.iconst 1, 1) := by decide +kernel
theorem dX4_isInRange_62 : decode cX4_isInRange 62 = .ok (.bipush 20, 2) := by decide +kernel
theorem dX4_isInRange_64 : decode cX4_isInRange 64 = .ok (.invokestatic 50, 3) := by decide +kernel
theorem dX4_isInRange_67 : decode cX4_isInRange 67 = .ok (.ireturn, 1) := by decide +kernel
theorem dX4_isInRange_68 : decode cX4_isInRange 68 = .ok (.iload_n 1, 1) := by decide +kernel
theorem dX4_isInRange_69 : decode cX4_isInRange 69 = .ok (.iconst 1, 1) := by decide +kernel
theorem dX4_isInRange_70 : decode cX4_isInRange 70 = .ok (.bipush 9, 2) := by decide +kernel
theorem dX4_isInRange_72 : decode cX4_isInRange 72 = .ok (.invokestatic 50, 3) := by decide +kernel
theorem dX4_isInRange_75 : decode cX4_isInRange 75 = .ok (.ireturn, 1) := by decide +kernel
theorem dX4_isInRange_76 : decode cX4_isInRange 76 = .ok (.iconst 0, 1) := by decide +kernel
theorem dX4_isInRange_77 : decode cX4_isInRange 77 = .ok (.ireturn, 1) := by decide +kernel
set_option maxRecDepth 20000 in
theorem ggX4_set_X4_isInRange : GoodIn wsX4_set wsX4_isInRange := goodIn_r _ [5, 6, 7, 4, 8] (by decide +kernel) (by decide +kernel)
set_option maxRecDepth 20000 in
theorem gX4_set_X4_isInRange : GoodIn wsX4_set (va_wsS RX4 54 yX4_isInRange wsX4_isInRange) := goodIn_app (goodIn_of _ (by decide +kernel)) ggX4_set_X4_isInRange
set_option maxRecDepth 20000 in
theorem ggX4_set_X4_record : GoodIn wsX4_set wsX4_record := goodIn_r _ [12, 13, 14, 1, 15, 16, 17, 18, 19, 20, 21, 22, 23, 24, 25, 26, 27, 28] (by decide +kernel) (by decide +kernel)
set_option maxRecDepth 20000 in
theorem gX4_set_X4_record : GoodIn wsX4_set (wsV RX4 47 RX4 yX4_record wsX4_record) := goodIn_app (goodIn_of _ (by decide +kernel)) ggX4_set_X4_record
theorem dX4_set_0 : decode cX4_set 0 = .ok (.iload_n 1, 1) := by decide +kernel
theorem dX4_set_1 : decode cX4_set 1 = .ok (.iload_n 2, 1) := by decide +kernel
theorem dX4_set_2 : decode cX4_set 2 = .ok (.invokestatic 54, 3) := by decide +kernel
theorem dX4_set_5 : decode cX4_set 5 = .ok (.ifCond .ne 6, 3) := by decide +kernel
theorem dX4_set_8 : decode cX4_set 8 = .ok (.bipush (-2), 2) := by decide +kernel
theorem dX4_set_10 : decode cX4_set 10 = .ok (.ireturn, 1) := by decide +kernel
theorem dX4_set_11 : decode cX4_set 11 = .ok (.aload_n 0, 1) := by decide +kernel
theorem dX4_set_12 : decode cX4_set 12 = .ok (.invokevirtual 47, 3) := by decide +kernel
theorem dX4_set_15 : decode cX4_set 15 = .ok (.aload_n 0, 1) := by decide +kernel
theorem dX4_set_16 : decode cX4_set 16 = .ok (.getfield 7, 3) := by decide +kernel
theorem dX4_set_19 : decode cX4_set 19 = .ok (.iload_n 1, 1) := by decide +kernel
theorem dX4_set_20 : decode cX4_set 20 = .ok (.iaload, 1) := by decide +kernel
theorem dX4_set_21 : decode cX4_set 21 = .ok (.istore_n 3, 1) := by decide +kernel
theorem dX4_set_22 : decode cX4_set 22 = .ok (.aload_n 0, 1) := by decide +kernel
theorem dX4_set_23 : decode cX4_set 23 = .ok (.getfield 7, 3) := by decide +kernel
theorem dX4_set_26 : decode cX4_set 26 = .ok (.iload_n 1, 1) := by decide +kernel
theorem dX4_set_27 : decode cX4_set 27 = .ok (.iload_n 2, 1) := by decide +kernel
theorem dX4_set_28 : decode cX4_set 28 = .ok (.iastore, 1) := by decide +kernel
theorem dX4_set_29 : decode cX4_set 29 = .ok (.iload_n 3, 1) := by decide +kernel
theorem dX4_set_30 : decode cX4_set 30 = .ok (.ireturn, 1) := by decide +kernel
set_option maxRecDepth 20000 in
theorem ggX4_setting_X4_in : GoodIn wsX4_setting wsX4_in := goodIn_r _ [5] (by decide +kernel) (by decide +kernel)
set_option maxRecDepth 20000 in
theorem gX4_setting_X4_in : GoodIn wsX4_setting (va_wsS RX4 50 yX4_in wsX4_in) := goodIn_app (goodIn_of _ (by decide +kernel)) ggX4_setting_X4_in
theorem dX4_setting_0 : decode cX4_setting 0 = .ok (.iload_n 1, 1) := by decide +kernel
theorem dX4_setting_1 : decode cX4_setting 1 = .ok (.iconst 0, 1) := by decide +kernel
theorem dX4_setting_2 : decode cX4_setting 2 = .ok (.iconst 4, 1) := by decide +kernel
theorem dX4_setting_3 : decode cX4_setting 3 = .ok (.invokestatic 50, 3) := by decide +kernel
theorem dX4_setting_6 : decode cX4_setting 6 = .ok (.ifCond .eq 12, 3) := by decide +kernel
theorem dX4_setting_9 : decode cX4_setting 9 = .ok (.aload_n 0, 1) := by decide +kernel
theorem dX4_setting_10 : decode cX4_setting 10 = .ok (.getfield 7, 3) := by decide +kernel
theorem dX4_setting_13 : decode cX4_setting 13 = .ok (.iload_n 1, 1) := by decide +kernel
theorem dX4_setting_14 : decode cX4_setting 14 = .ok (.iaload, 1) := by decide +kernel
theorem dX4_setting_15 : decode cX4_setting 15 = .ok (.goto 5, 3) := by decide +kernel
theorem dX4_setting_18 : decode cX4_setting 18 = .ok (.bipush (-2), 2) := by decide +kernel
theorem dX4_setting_20 : decode cX4_setting 20 = .ok (.ireturn, 1) := by decide +kernel
theorem dX4_at_0 : decode cX4_at 0 = .ok (.aload_n 0, 1) := by decide +kernel
theorem dX4_at_1 : decode cX4_at 1 = .ok (.getfield 7, 3) := by decide +kernel
theorem dX4_at_4 : decode cX4_at 4 = .ok (.bipush 12, 2) := by decide +kernel
theorem dX4_at_6 : decode cX4_at 6 = .ok (.iconst 4, 1) := by decide +kernel
theorem dX4_at_7 : decode cX4_at 7 = .ok (.iload_n 1, 1) := by decide +kernel
theorem dX4_at_8 : decode cX4_at 8 = .ok (.imul, 1) := by decide +kernel
theorem dX4_at_9 : decode cX4_at 9 = .ok (.iadd, 1) := by decide +kernel
theorem dX4_at_10 : decode cX4_at 10 = .ok (.iload_n 2, 1) := by decide +kernel
theorem dX4_at_11 : decode cX4_at 11 = .ok (.iadd, 1) := by decide +kernel
theorem dX4_at_12 : decode cX4_at 12 = .ok (.iaload, 1) := by decide +kernel
theorem dX4_at_13 : decode cX4_at 13 = .ok (.ireturn, 1) := by decide +kernel
set_option maxRecDepth 20000 in
theorem ggX4_isTaken_X4_at : GoodIn wsX4_isTaken wsX4_at := goodIn_r _ [5, 6, 7, 8, 9, 10, 11, 12, 13, 14, 15, 16, 17, 18, 19, 20] (by decide +kernel) (by decide +kernel)
set_option maxRecDepth 20000 in
theorem gX4_isTaken_X4_at : GoodIn wsX4_isTaken (wsV RX4 58 RX4 yX4_at wsX4_at) := goodIn_app (goodIn_of _ (by decide +kernel)) ggX4_isTaken_X4_at
theorem dX4_isTaken_0 : decode cX4_isTaken 0 = .ok (.aload_n 0, 1) := by decide +kernel
theorem dX4_isTaken_1 : decode cX4_isTaken 1 = .ok (.iload_n 1, 1) := by decide +kernel
theorem dX4_isTaken_2 : decode cX4_isTaken 2 = .ok (.iconst 0, 1) := by decide +kernel
