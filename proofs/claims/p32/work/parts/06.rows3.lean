set_option maxRecDepth 20000 in
theorem gX3_isPlace_X3_isWithin : GoodIn wsX3_isPlace (va_wsS RX3 59 yX3_isWithin wsX3_isWithin) := goodIn_app (goodIn_of _ (by decide +kernel)) ggX3_isPlace_X3_isWithin
theorem dX3_isPlace_0 : decode cX3_isPlace 0 = .ok (.iload_n 0, 1) := by decide +kernel
theorem dX3_isPlace_1 : decode cX3_isPlace 1 = .ok (.iconst 0, 1) := by decide +kernel
theorem dX3_isPlace_2 : decode cX3_isPlace 2 = .ok (.iconst 5, 1) := by decide +kernel
theorem dX3_isPlace_3 : decode cX3_isPlace 3 = .ok (.invokestatic 59, 3) := by decide +kernel
theorem dX3_isPlace_6 : decode cX3_isPlace 6 = .ok (.ifCond .eq 17, 3) := by decide +kernel
theorem dX3_isPlace_9 : decode cX3_isPlace 9 = .ok (.iload_n 1, 1) := by decide +kernel
theorem dX3_isPlace_10 : decode cX3_isPlace 10 = .ok (.iconst 0, 1) := by decide +kernel
theorem dX3_isPlace_11 : decode cX3_isPlace 11 = .ok (.bipush 7, 2) := by decide +kernel
theorem dX3_isPlace_13 : decode cX3_isPlace 13 = .ok (.invokestatic 59, 3) := by decide +kernel
theorem dX3_isPlace_16 : decode cX3_isPlace 16 = .ok (.ifCond .eq 7, 3) := by decide +kernel
theorem dX3_isPlace_19 : decode cX3_isPlace 19 = .ok (.iconst 1, 1) := by decide +kernel
theorem dX3_isPlace_20 : decode cX3_isPlace 20 = .ok (.goto 4, 3) := by decide +kernel
theorem dX3_isPlace_23 : decode cX3_isPlace 23 = .ok (.iconst 0, 1) := by decide +kernel
theorem dX3_isPlace_24 : decode cX3_isPlace 24 = .ok (.ireturn, 1) := by decide +kernel
theorem dX3_sizeOfShelf_0 : decode cX3_sizeOfShelf 0 = .ok (.iload_n 0, 1) := by decide +kernel
theorem dX3_sizeOfShelf_1 : decode cX3_sizeOfShelf 1 = .ok (.iconst 2, 1) := by decide +kernel
theorem dX3_sizeOfShelf_2 : decode cX3_sizeOfShelf 2 = .ok (.idiv, 1) := by decide +kernel
theorem dX3_sizeOfShelf_3 : decode cX3_sizeOfShelf 3 = .ok (.ireturn, 1) := by decide +kernel
theorem dX3_firstShelfFor_0 : decode cX3_firstShelfFor 0 = .ok (.iload_n 0, 1) := by decide +kernel
theorem dX3_firstShelfFor_1 : decode cX3_firstShelfFor 1 = .ok (.iconst 2, 1) := by decide +kernel
theorem dX3_firstShelfFor_2 : decode cX3_firstShelfFor 2 = .ok (.imul, 1) := by decide +kernel
theorem dX3_firstShelfFor_3 : decode cX3_firstShelfFor 3 = .ok (.ireturn, 1) := by decide +kernel
theorem dX3_checkDigit_0 : decode cX3_checkDigit 0 = .ok (.bipush 10, 2) := by decide +kernel
theorem dX3_checkDigit_2 : decode cX3_checkDigit 2 = .ok (.iconst 3, 1) := by decide +kernel
theorem dX3_checkDigit_3 : decode cX3_checkDigit 3 = .ok (.iload_n 0, 1) := by decide +kernel
theorem dX3_checkDigit_4 : decode cX3_checkDigit 4 = .ok (.imul, 1) := by decide +kernel
theorem dX3_checkDigit_5 : decode cX3_checkDigit 5 = .ok (.iload_n 1, 1) := by decide +kernel
theorem dX3_checkDigit_6 : decode cX3_checkDigit 6 = .ok (.iadd, 1) := by decide +kernel
theorem dX3_checkDigit_7 : decode cX3_checkDigit 7 = .ok (.bipush 7, 2) := by decide +kernel
theorem dX3_checkDigit_9 : decode cX3_checkDigit 9 = .ok (.iload_n 2, 1) := by decide +kernel
theorem dX3_checkDigit_10 : decode cX3_checkDigit 10 = .ok (.imul, 1) := by decide +kernel
theorem dX3_checkDigit_11 : decode cX3_checkDigit 11 = .ok (.iadd, 1) := by decide +kernel
theorem dX3_checkDigit_12 : decode cX3_checkDigit 12 = .ok (.bipush 10, 2) := by decide +kernel
theorem dX3_checkDigit_14 : decode cX3_checkDigit 14 = .ok (.irem, 1) := by decide +kernel
theorem dX3_checkDigit_15 : decode cX3_checkDigit 15 = .ok (.isub, 1) := by decide +kernel
theorem dX3_checkDigit_16 : decode cX3_checkDigit 16 = .ok (.bipush 10, 2) := by decide +kernel
theorem dX3_checkDigit_18 : decode cX3_checkDigit 18 = .ok (.irem, 1) := by decide +kernel
theorem dX3_checkDigit_19 : decode cX3_checkDigit 19 = .ok (.ireturn, 1) := by decide +kernel
theorem dX3_weekdayOf_0 : decode cX3_weekdayOf 0 = .ok (.iload_n 0, 1) := by decide +kernel
theorem dX3_weekdayOf_1 : decode cX3_weekdayOf 1 = .ok (.bipush 7, 2) := by decide +kernel
theorem dX3_weekdayOf_3 : decode cX3_weekdayOf 3 = .ok (.irem, 1) := by decide +kernel
theorem dX3_weekdayOf_4 : decode cX3_weekdayOf 4 = .ok (.iconst 1, 1) := by decide +kernel
theorem dX3_weekdayOf_5 : decode cX3_weekdayOf 5 = .ok (.iadd, 1) := by decide +kernel
theorem dX3_weekdayOf_6 : decode cX3_weekdayOf 6 = .ok (.ireturn, 1) := by decide +kernel
set_option maxRecDepth 20000 in
theorem ggX3_codeFor_X3_checkDigit : GoodIn wsX3_codeFor wsX3_checkDigit := goodIn_r _ [4] (by decide +kernel) (by decide +kernel)
set_option maxRecDepth 20000 in
theorem gX3_codeFor_X3_checkDigit : GoodIn wsX3_codeFor (va_wsS RX3 267 yX3_checkDigit wsX3_checkDigit) := goodIn_app (goodIn_of _ (by decide +kernel)) ggX3_codeFor_X3_checkDigit
theorem dX3_codeFor_0 : decode cX3_codeFor 0 = .ok (.iload_n 1, 1) := by decide +kernel
theorem dX3_codeFor_1 : decode cX3_codeFor 1 = .ok (.bipush 8, 2) := by decide +kernel
theorem dX3_codeFor_3 : decode cX3_codeFor 3 = .ok (.idiv, 1) := by decide +kernel
theorem dX3_codeFor_4 : decode cX3_codeFor 4 = .ok (.istore_n 2, 1) := by decide +kernel
theorem dX3_codeFor_5 : decode cX3_codeFor 5 = .ok (.iload_n 1, 1) := by decide +kernel
theorem dX3_codeFor_6 : decode cX3_codeFor 6 = .ok (.bipush 8, 2) := by decide +kernel
theorem dX3_codeFor_8 : decode cX3_codeFor 8 = .ok (.irem, 1) := by decide +kernel
theorem dX3_codeFor_9 : decode cX3_codeFor 9 = .ok (.istore_n 3, 1) := by decide +kernel
theorem dX3_codeFor_10 : decode cX3_codeFor 10 = .ok (.sipush 1000, 3) := by decide +kernel
theorem dX3_codeFor_13 : decode cX3_codeFor 13 = .ok (.iload_n 0, 1) := by decide +kernel
theorem dX3_codeFor_14 : decode cX3_codeFor 14 = .ok (.imul, 1) := by decide +kernel
theorem dX3_codeFor_15 : decode cX3_codeFor 15 = .ok (.bipush 100, 2) := by decide +kernel
theorem dX3_codeFor_17 : decode cX3_codeFor 17 = .ok (.iload_n 2, 1) := by decide +kernel
theorem dX3_codeFor_18 : decode cX3_codeFor 18 = .ok (.imul, 1) := by decide +kernel
theorem dX3_codeFor_19 : decode cX3_codeFor 19 = .ok (.iadd, 1) := by decide +kernel
theorem dX3_codeFor_20 : decode cX3_codeFor 20 = .ok (.bipush 10, 2) := by decide +kernel
theorem dX3_codeFor_22 : decode cX3_codeFor 22 = .ok (.iload_n 3, 1) := by decide +kernel
theorem dX3_codeFor_23 : decode cX3_codeFor 23 = .ok (.imul, 1) := by decide +kernel
theorem dX3_codeFor_24 : decode cX3_codeFor 24 = .ok (.iadd, 1) := by decide +kernel
theorem dX3_codeFor_25 : decode cX3_codeFor 25 = .ok (.iload_n 0, 1) := by decide +kernel
theorem dX3_codeFor_26 : decode cX3_codeFor 26 = .ok (.iload_n 2, 1) := by decide +kernel
theorem dX3_codeFor_27 : decode cX3_codeFor 27 = .ok (.iload_n 3, 1) := by decide +kernel
theorem dX3_codeFor_28 : decode cX3_codeFor 28 = .ok (.invokestatic 267, 3) := by decide +kernel
theorem dX3_codeFor_31 : decode cX3_codeFor 31 = .ok (.iadd, 1) := by decide +kernel
theorem dX3_codeFor_32 : decode cX3_codeFor 32 = .ok (.ireturn, 1) := by decide +kernel
theorem dX3_indexFor_0 : decode cX3_indexFor 0 = .ok (.iload_n 0, 1) := by decide +kernel
theorem dX3_indexFor_1 : decode cX3_indexFor 1 = .ok (.iconst 1, 1) := by decide +kernel
theorem dX3_indexFor_2 : decode cX3_indexFor 2 = .ok (.isub, 1) := by decide +kernel
theorem dX3_indexFor_3 : decode cX3_indexFor 3 = .ok (.bipush 48, 2) := by decide +kernel
theorem dX3_indexFor_5 : decode cX3_indexFor 5 = .ok (.imul, 1) := by decide +kernel
theorem dX3_indexFor_6 : decode cX3_indexFor 6 = .ok (.iload_n 1, 1) := by decide +kernel
theorem dX3_indexFor_7 : decode cX3_indexFor 7 = .ok (.iadd, 1) := by decide +kernel
theorem dX3_indexFor_8 : decode cX3_indexFor 8 = .ok (.ireturn, 1) := by decide +kernel
set_option maxRecDepth 20000 in
theorem ggX3_indexOfCode_X3_isWithin : GoodIn wsX3_indexOfCode wsX3_isWithin := goodIn_r _ [4] (by decide +kernel) (by decide +kernel)
set_option maxRecDepth 20000 in
theorem gX3_indexOfCode_X3_isWithin : GoodIn wsX3_indexOfCode (va_wsS RX3 59 yX3_isWithin wsX3_isWithin) := goodIn_app (goodIn_of _ (by decide +kernel)) ggX3_indexOfCode_X3_isWithin
set_option maxRecDepth 20000 in
theorem ggX3_indexOfCode_X3_isPlace : GoodIn wsX3_indexOfCode wsX3_isPlace := goodIn_r _ [7, 1, 2, 3, 4] (by decide +kernel) (by decide +kernel)
set_option maxRecDepth 20000 in
theorem gX3_indexOfCode_X3_isPlace : GoodIn wsX3_indexOfCode (va_wsS RX3 103 yX3_isPlace wsX3_isPlace) := goodIn_app (goodIn_of _ (by decide +kernel)) ggX3_indexOfCode_X3_isPlace
set_option maxRecDepth 20000 in
theorem ggX3_indexOfCode_X3_checkDigit : GoodIn wsX3_indexOfCode wsX3_checkDigit := goodIn_r _ [10] (by decide +kernel) (by decide +kernel)
set_option maxRecDepth 20000 in
theorem gX3_indexOfCode_X3_checkDigit : GoodIn wsX3_indexOfCode (va_wsS RX3 267 yX3_checkDigit wsX3_checkDigit) := goodIn_app (goodIn_of _ (by decide +kernel)) ggX3_indexOfCode_X3_checkDigit
set_option maxRecDepth 20000 in
theorem ggX3_indexOfCode_X3_indexFor : GoodIn wsX3_indexOfCode wsX3_indexFor := goodIn_r _ [13] (by decide +kernel) (by decide +kernel)
set_option maxRecDepth 20000 in
theorem gX3_indexOfCode_X3_indexFor : GoodIn wsX3_indexOfCode (va_wsS RX3 271 yX3_indexFor wsX3_indexFor) := goodIn_app (goodIn_of _ (by decide +kernel)) ggX3_indexOfCode_X3_indexFor
theorem dX3_indexOfCode_0 : decode cX3_indexOfCode 0 = .ok (.iload_n 0, 1) := by decide +kernel
theorem dX3_indexOfCode_1 : decode cX3_indexOfCode 1 = .ok (.iconst 0, 1) := by decide +kernel
theorem dX3_indexOfCode_2 : decode cX3_indexOfCode 2 = .ok (.sipush 9999, 3) := by decide +kernel
theorem dX3_indexOfCode_5 : decode cX3_indexOfCode 5 = .ok (.invokestatic 59, 3) := by decide +kernel
theorem dX3_indexOfCode_8 : decode cX3_indexOfCode 8 = .ok (.ifCond .ne 5, 3) := by decide +kernel
theorem dX3_indexOfCode_11 : decode cX3_indexOfCode 11 = .ok (.iconst (-1), 1) := by decide +kernel
theorem dX3_indexOfCode_12 : decode cX3_indexOfCode 12 = .ok (.ireturn, 1) := by decide +kernel
theorem dX3_indexOfCode_13 : decode cX3_indexOfCode 13 = .ok (.iload_n 0, 1) := by decide +kernel
theorem dX3_indexOfCode_14 : decode cX3_indexOfCode 14 = .ok (.sipush 1000, 3) := by decide +kernel
theorem dX3_indexOfCode_17 : decode cX3_indexOfCode 17 = .ok (.idiv, 1) := by decide +kernel
theorem dX3_indexOfCode_18 : decode cX3_indexOfCode 18 = .ok (.istore_n 1, 1) := by decide +kernel
theorem dX3_indexOfCode_19 : decode cX3_indexOfCode 19 = .ok (.iload_n 0, 1) := by decide +kernel
theorem dX3_indexOfCode_20 : decode cX3_indexOfCode 20 = .ok (.bipush 100, 2) := by decide +kernel
theorem dX3_indexOfCode_22 : decode cX3_indexOfCode 22 = .ok (.idiv, 1) := by decide +kernel
theorem dX3_indexOfCode_23 : decode cX3_indexOfCode 23 = .ok (.bipush 10, 2) := by decide +kernel
theorem dX3_indexOfCode_25 : decode cX3_indexOfCode 25 = .ok (.irem, 1) := by decide +kernel
theorem dX3_indexOfCode_26 : decode cX3_indexOfCode 26 = .ok (.istore_n 2, 1) := by decide +kernel
theorem dX3_indexOfCode_27 : decode cX3_indexOfCode 27 = .ok (.iload_n 0, 1) := by decide +kernel
theorem dX3_indexOfCode_28 : decode cX3_indexOfCode 28 = .ok (.bipush 10, 2) := by decide +kernel
theorem dX3_indexOfCode_30 : decode cX3_indexOfCode 30 = .ok (.idiv, 1) := by decide +kernel
theorem dX3_indexOfCode_31 : decode cX3_indexOfCode 31 = .ok (.bipush 10, 2) := by decide +kernel
theorem dX3_indexOfCode_33 : decode cX3_indexOfCode 33 = .ok (.irem, 1) := by decide +kernel
theorem dX3_indexOfCode_34 : decode cX3_indexOfCode 34 = .ok (.istore_n 3, 1) := by decide +kernel
theorem dX3_indexOfCode_35 : decode cX3_indexOfCode 35 = .ok (.iload_n 1, 1) := by decide +kernel
theorem dX3_indexOfCode_36 : decode cX3_indexOfCode 36 = .ok (.iconst 1, 1) := by decide +kernel
theorem dX3_indexOfCode_37 : decode cX3_indexOfCode 37 = .ok (.bipush 7, 2) := by decide +kernel
theorem dX3_indexOfCode_39 : decode cX3_indexOfCode 39 = .ok (.invokestatic 59, 3) := by decide +kernel
theorem dX3_indexOfCode_42 : decode cX3_indexOfCode 42 = .ok (.ifCond .eq 11, 3) := by decide +kernel
theorem dX3_indexOfCode_45 : decode cX3_indexOfCode 45 = .ok (.iload_n 2, 1) := by decide +kernel
theorem dX3_indexOfCode_46 : decode cX3_indexOfCode 46 = .ok (.iload_n 3, 1) := by decide +kernel
theorem dX3_indexOfCode_47 : decode cX3_indexOfCode 47 = .ok (.invokestatic 103, 3) := by decide +kernel
theorem dX3_indexOfCode_50 : decode cX3_indexOfCode 50 = .ok (.ifCond .ne 5, 3) := by decide +kernel
theorem dX3_indexOfCode_53 : decode cX3_indexOfCode 53 = .ok (.iconst (-1), 1) := by decide +kernel
theorem dX3_indexOfCode_54 : decode cX3_indexOfCode 54 = .ok (.ireturn, 1) := by decide +kernel
theorem dX3_indexOfCode_55 : decode cX3_indexOfCode 55 = .ok (.iload_n 0, 1) := by decide +kernel
theorem dX3_indexOfCode_56 : decode cX3_indexOfCode 56 = .ok (.bipush 10, 2) := by decide +kernel
theorem dX3_indexOfCode_58 : decode cX3_indexOfCode 58 = .ok (.irem, 1) := by decide +kernel
theorem dX3_indexOfCode_59 : decode cX3_indexOfCode 59 = .ok (.iload_n 1, 1) := by decide +kernel
theorem dX3_indexOfCode_60 : decode cX3_indexOfCode 60 = .ok (.iload_n 2, 1) := by decide +kernel
theorem dX3_indexOfCode_61 : decode cX3_indexOfCode 61 = .ok (.iload_n 3, 1) := by decide +kernel
theorem dX3_indexOfCode_62 : decode cX3_indexOfCode 62 = .ok (.invokestatic 267, 3) := by decide +kernel
theorem dX3_indexOfCode_65 : decode cX3_indexOfCode 65 = .ok (.if_icmp .eq 5, 3) := by decide +kernel
theorem dX3_indexOfCode_68 : decode cX3_indexOfCode 68 = .ok (.iconst (-1), 1) := by decide +kernel
theorem dX3_indexOfCode_69 : decode cX3_indexOfCode 69 = .ok (.ireturn, 1) := by decide +kernel
theorem dX3_indexOfCode_70 : decode cX3_indexOfCode 70 = .ok (.iload_n 1, 1) := by decide +kernel
theorem dX3_indexOfCode_71 : decode cX3_indexOfCode 71 = .ok (.iload_n 2, 1) := by decide +kernel
theorem dX3_indexOfCode_72 : decode cX3_indexOfCode 72 = .ok (.bipush 8, 2) := by decide +kernel
theorem dX3_indexOfCode_74 : decode cX3_indexOfCode 74 = .ok (.imul, 1) := by decide +kernel
theorem dX3_indexOfCode_75 : decode cX3_indexOfCode 75 = .ok (.iload_n 3, 1) := by decide +kernel
theorem dX3_indexOfCode_76 : decode cX3_indexOfCode 76 = .ok (.iadd, 1) := by decide +kernel
theorem dX3_indexOfCode_77 : decode cX3_indexOfCode 77 = .ok (.invokestatic 271, 3) := by decide +kernel
theorem dX3_indexOfCode_80 : decode cX3_indexOfCode 80 = .ok (.ireturn, 1) := by decide +kernel
theorem dJ9_max_7cf53_0 : decode cJ9_max_7cf53 0 = .ok (.iload_n 0, 1) := by decide +kernel
theorem dJ9_max_7cf53_1 : decode cJ9_max_7cf53 1 = .ok (.iload_n 1, 1) := by decide +kernel
theorem dJ9_max_7cf53_2 : decode cJ9_max_7cf53 2 = .ok (.if_icmp .lt 7, 3) := by decide +kernel
theorem dJ9_max_7cf53_5 : decode cJ9_max_7cf53 5 = .ok (.iload_n 0, 1) := by decide +kernel
theorem dJ9_max_7cf53_6 : decode cJ9_max_7cf53 6 = .ok (.goto 4, 3) := by decide +kernel
theorem dJ9_max_7cf53_9 : decode cJ9_max_7cf53 9 = .ok (.iload_n 1, 1) := by decide +kernel
theorem dJ9_max_7cf53_10 : decode cJ9_max_7cf53 10 = .ok (.ireturn, 1) := by decide +kernel
theorem dJ7_fill_53178_0 : decode cJ7_fill_53178 0 = .ok (.iconst 0, 1) := by decide +kernel
theorem dJ7_fill_53178_1 : decode cJ7_fill_53178 1 = .ok (.istore_n 2, 1) := by decide +kernel
theorem dJ7_fill_53178_2 : decode cJ7_fill_53178 2 = .ok (.aload_n 0, 1) := by decide +kernel
theorem dJ7_fill_53178_3 : decode cJ7_fill_53178 3 = .ok (.arraylength, 1) := by decide +kernel
theorem dJ7_fill_53178_4 : decode cJ7_fill_53178 4 = .ok (.istore_n 3, 1) := by decide +kernel
theorem dJ7_fill_53178_5 : decode cJ7_fill_53178 5 = .ok (.iload_n 2, 1) := by decide +kernel
theorem dJ7_fill_53178_6 : decode cJ7_fill_53178 6 = .ok (.iload_n 3, 1) := by decide +kernel
theorem dJ7_fill_53178_7 : decode cJ7_fill_53178 7 = .ok (.if_icmp .ge 13, 3) := by decide +kernel
theorem dJ7_fill_53178_10 : decode cJ7_fill_53178 10 = .ok (.aload_n 0, 1) := by decide +kernel
theorem dJ7_fill_53178_11 : decode cJ7_fill_53178 11 = .ok (.iload_n 2, 1) := by decide +kernel
theorem dJ7_fill_53178_12 : decode cJ7_fill_53178 12 = .ok (.iload_n 1, 1) := by decide +kernel
theorem dJ7_fill_53178_13 : decode cJ7_fill_53178 13 = .ok (.iastore, 1) := by decide +kernel
theorem dJ7_fill_53178_14 : decode cJ7_fill_53178 14 = .ok (.iinc 2 1, 3) := by decide +kernel
theorem dJ7_fill_53178_17 : decode cJ7_fill_53178 17 = .ok (.goto (-12), 3) := by decide +kernel
theorem dJ7_fill_53178_20 : decode cJ7_fill_53178 20 = .ok (.return_, 1) := by decide +kernel
theorem dL_cell_0 : decode cL_cell 0 = .ok (.iload_n 1, 1) := by decide +kernel
theorem dL_cell_1 : decode cL_cell 1 = .ok (.aload_n 0, 1) := by decide +kernel
theorem dL_cell_2 : decode cL_cell 2 = .ok (.arraylength, 1) := by decide +kernel
theorem dL_cell_3 : decode cL_cell 3 = .ok (.if_icmp .ge 9, 3) := by decide +kernel
theorem dL_cell_6 : decode cL_cell 6 = .ok (.aload_n 0, 1) := by decide +kernel
theorem dL_cell_7 : decode cL_cell 7 = .ok (.iload_n 1, 1) := by decide +kernel
theorem dL_cell_8 : decode cL_cell 8 = .ok (.iaload, 1) := by decide +kernel
theorem dL_cell_9 : decode cL_cell 9 = .ok (.goto 10, 3) := by decide +kernel
theorem dL_cell_12 : decode cL_cell 12 = .ok (.ldc 7, 2) := by decide +kernel
theorem dL_cell_14 : decode cL_cell 14 = .ok (.iload_n 1, 1) := by decide +kernel
theorem dL_cell_15 : decode cL_cell 15 = .ok (.imul, 1) := by decide +kernel
theorem dL_cell_16 : decode cL_cell 16 = .ok (.ldc 8, 2) := by decide +kernel
theorem dL_cell_18 : decode cL_cell 18 = .ok (.iadd, 1) := by decide +kernel
theorem dL_cell_19 : decode cL_cell 19 = .ok (.ireturn, 1) := by decide +kernel
theorem dL_low_0 : decode cL_low 0 = .ok (.iload_n 0, 1) := by decide +kernel
theorem dL_low_1 : decode cL_low 1 = .ok (.ldc 9, 2) := by decide +kernel
theorem dL_low_3 : decode cL_low 3 = .ok (.iand, 1) := by decide +kernel
theorem dL_low_4 : decode cL_low 4 = .ok (.iload_n 1, 1) := by decide +kernel
theorem dL_low_5 : decode cL_low 5 = .ok (.irem, 1) := by decide +kernel
theorem dL_low_6 : decode cL_low 6 = .ok (.ireturn, 1) := by decide +kernel
theorem dL_check_0 : decode cL_check 0 = .ok (.iconst 3, 1) := by decide +kernel
theorem dL_check_1 : decode cL_check 1 = .ok (.iload_n 0, 1) := by decide +kernel
theorem dL_check_2 : decode cL_check 2 = .ok (.imul, 1) := by decide +kernel
theorem dL_check_3 : decode cL_check 3 = .ok (.iload_n 1, 1) := by decide +kernel
theorem dL_check_4 : decode cL_check 4 = .ok (.iadd, 1) := by decide +kernel
theorem dL_check_5 : decode cL_check 5 = .ok (.bipush 7, 2) := by decide +kernel
theorem dL_check_7 : decode cL_check 7 = .ok (.iload_n 2, 1) := by decide +kernel
theorem dL_check_8 : decode cL_check 8 = .ok (.imul, 1) := by decide +kernel
theorem dL_check_9 : decode cL_check 9 = .ok (.iadd, 1) := by decide +kernel
theorem dL_check_10 : decode cL_check 10 = .ok (.istore_n 3, 1) := by decide +kernel
theorem dL_check_11 : decode cL_check 11 = .ok (.iconst 0, 1) := by decide +kernel
theorem dL_check_12 : decode cL_check 12 = .ok (.istore 4, 2) := by decide +kernel
theorem dL_check_14 : decode cL_check 14 = .ok (.iload_n 3, 1) := by decide +kernel
theorem dL_check_15 : decode cL_check 15 = .ok (.iload 4, 2) := by decide +kernel
theorem dL_check_17 : decode cL_check 17 = .ok (.iadd, 1) := by decide +kernel
theorem dL_check_18 : decode cL_check 18 = .ok (.bipush 10, 2) := by decide +kernel
theorem dL_check_20 : decode cL_check 20 = .ok (.irem, 1) := by decide +kernel
theorem dL_check_21 : decode cL_check 21 = .ok (.ifCond .eq 9, 3) := by decide +kernel
theorem dL_check_24 : decode cL_check 24 = .ok (.iinc 4 1, 3) := by decide +kernel
theorem dL_check_27 : decode cL_check 27 = .ok (.goto (-13), 3) := by decide +kernel
theorem dL_check_30 : decode cL_check 30 = .ok (.iload 4, 2) := by decide +kernel
theorem dL_check_32 : decode cL_check 32 = .ok (.ireturn, 1) := by decide +kernel
set_option maxRecDepth 20000 in
theorem ggL_code_L_check : GoodIn wsL_code wsL_check := goodIn_r _ [4] (by decide +kernel) (by decide +kernel)
set_option maxRecDepth 20000 in
theorem gL_code_L_check : GoodIn wsL_code (va_wsS RL 10 yL_check wsL_check) := goodIn_app (goodIn_of _ (by decide +kernel)) ggL_code_L_check
theorem dL_code_0 : decode cL_code 0 = .ok (.iload_n 0, 1) := by decide +kernel
theorem dL_code_1 : decode cL_code 1 = .ok (.bipush 7, 2) := by decide +kernel
theorem dL_code_3 : decode cL_code 3 = .ok (.irem, 1) := by decide +kernel
theorem dL_code_4 : decode cL_code 4 = .ok (.iconst 1, 1) := by decide +kernel
theorem dL_code_5 : decode cL_code 5 = .ok (.iadd, 1) := by decide +kernel
theorem dL_code_6 : decode cL_code 6 = .ok (.istore_n 2, 1) := by decide +kernel
theorem dL_code_7 : decode cL_code 7 = .ok (.sipush 1000, 3) := by decide +kernel
theorem dL_code_10 : decode cL_code 10 = .ok (.iload_n 2, 1) := by decide +kernel
theorem dL_code_11 : decode cL_code 11 = .ok (.imul, 1) := by decide +kernel
theorem dL_code_12 : decode cL_code 12 = .ok (.bipush 100, 2) := by decide +kernel
theorem dL_code_14 : decode cL_code 14 = .ok (.iload_n 1, 1) := by decide +kernel
theorem dL_code_15 : decode cL_code 15 = .ok (.bipush 8, 2) := by decide +kernel
theorem dL_code_17 : decode cL_code 17 = .ok (.idiv, 1) := by decide +kernel
theorem dL_code_18 : decode cL_code 18 = .ok (.imul, 1) := by decide +kernel
theorem dL_code_19 : decode cL_code 19 = .ok (.iadd, 1) := by decide +kernel
theorem dL_code_20 : decode cL_code 20 = .ok (.bipush 10, 2) := by decide +kernel
theorem dL_code_22 : decode cL_code 22 = .ok (.iload_n 1, 1) := by decide +kernel
theorem dL_code_23 : decode cL_code 23 = .ok (.bipush 8, 2) := by decide +kernel
theorem dL_code_25 : decode cL_code 25 = .ok (.irem, 1) := by decide +kernel
theorem dL_code_26 : decode cL_code 26 = .ok (.imul, 1) := by decide +kernel
theorem dL_code_27 : decode cL_code 27 = .ok (.iadd, 1) := by decide +kernel
theorem dL_code_28 : decode cL_code 28 = .ok (.iload_n 2, 1) := by decide +kernel
theorem dL_code_29 : decode cL_code 29 = .ok (.iload_n 1, 1) := by decide +kernel
theorem dL_code_30 : decode cL_code 30 = .ok (.bipush 8, 2) := by decide +kernel
theorem dL_code_32 : decode cL_code 32 = .ok (.idiv, 1) := by decide +kernel
theorem dL_code_33 : decode cL_code 33 = .ok (.iload_n 1, 1) := by decide +kernel
theorem dL_code_34 : decode cL_code 34 = .ok (.bipush 8, 2) := by decide +kernel
theorem dL_code_36 : decode cL_code 36 = .ok (.irem, 1) := by decide +kernel
theorem dL_code_37 : decode cL_code 37 = .ok (.invokestatic 10, 3) := by decide +kernel
theorem dL_code_40 : decode cL_code 40 = .ok (.iadd, 1) := by decide +kernel
theorem dL_code_41 : decode cL_code 41 = .ok (.ireturn, 1) := by decide +kernel
theorem dL_until_0 : decode cL_until 0 = .ok (.iconst 0, 1) := by decide +kernel
theorem dL_until_1 : decode cL_until 1 = .ok (.istore 4, 2) := by decide +kernel
theorem dL_until_3 : decode cL_until 3 = .ok (.iconst 0, 1) := by decide +kernel
theorem dL_until_4 : decode cL_until 4 = .ok (.istore 5, 2) := by decide +kernel
theorem dL_until_6 : decode cL_until 6 = .ok (.iload 5, 2) := by decide +kernel
theorem dL_until_8 : decode cL_until 8 = .ok (.aload_n 2, 1) := by decide +kernel
theorem dL_until_9 : decode cL_until 9 = .ok (.bipush 8, 2) := by decide +kernel
theorem dL_until_11 : decode cL_until 11 = .ok (.iaload, 1) := by decide +kernel
theorem dL_until_12 : decode cL_until 12 = .ok (.if_icmp .ge 32, 3) := by decide +kernel
theorem dL_until_15 : decode cL_until 15 = .ok (.aload_n 0, 1) := by decide +kernel
theorem dL_until_16 : decode cL_until 16 = .ok (.iload 5, 2) := by decide +kernel
theorem dL_until_18 : decode cL_until 18 = .ok (.iaload, 1) := by decide +kernel
theorem dL_until_19 : decode cL_until 19 = .ok (.iload_n 3, 1) := by decide +kernel
theorem dL_until_20 : decode cL_until 20 = .ok (.if_icmp .ne 14, 3) := by decide +kernel
theorem dL_until_23 : decode cL_until 23 = .ok (.aload_n 1, 1) := by decide +kernel
theorem dL_until_24 : decode cL_until 24 = .ok (.iload 5, 2) := by decide +kernel
theorem dL_until_26 : decode cL_until 26 = .ok (.iaload, 1) := by decide +kernel
theorem dL_until_27 : decode cL_until 27 = .ok (.aload_n 2, 1) := by decide +kernel
theorem dL_until_28 : decode cL_until 28 = .ok (.iconst 0, 1) := by decide +kernel
theorem dL_until_29 : decode cL_until 29 = .ok (.iaload, 1) := by decide +kernel
theorem dL_until_30 : decode cL_until 30 = .ok (.iadd, 1) := by decide +kernel
theorem dL_until_31 : decode cL_until 31 = .ok (.goto 5, 3) := by decide +kernel
theorem dL_until_34 : decode cL_until 34 = .ok (.iload 4, 2) := by decide +kernel
theorem dL_until_36 : decode cL_until 36 = .ok (.istore 4, 2) := by decide +kernel
theorem dL_until_38 : decode cL_until 38 = .ok (.iinc 5 1, 3) := by decide +kernel
theorem dL_until_41 : decode cL_until 41 = .ok (.goto (-35), 3) := by decide +kernel
theorem dL_until_44 : decode cL_until 44 = .ok (.iload 4, 2) := by decide +kernel
theorem dL_until_46 : decode cL_until 46 = .ok (.ireturn, 1) := by decide +kernel
theorem dL_on_0 : decode cL_on 0 = .ok (.iconst (-1), 1) := by decide +kernel
theorem dL_on_1 : decode cL_on 1 = .ok (.istore_n 3, 1) := by decide +kernel
theorem dL_on_2 : decode cL_on 2 = .ok (.iconst 0, 1) := by decide +kernel
theorem dL_on_3 : decode cL_on 3 = .ok (.istore 4, 2) := by decide +kernel
theorem dL_on_5 : decode cL_on 5 = .ok (.iload 4, 2) := by decide +kernel
theorem dL_on_7 : decode cL_on 7 = .ok (.aload_n 1, 1) := by decide +kernel
theorem dL_on_8 : decode cL_on 8 = .ok (.bipush 7, 2) := by decide +kernel
theorem dL_on_10 : decode cL_on 10 = .ok (.iaload, 1) := by decide +kernel
theorem dL_on_11 : decode cL_on 11 = .ok (.if_icmp .ge 24, 3) := by decide +kernel
theorem dL_on_14 : decode cL_on 14 = .ok (.aload_n 0, 1) := by decide +kernel
theorem dL_on_15 : decode cL_on 15 = .ok (.iload 4, 2) := by decide +kernel
theorem dL_on_17 : decode cL_on 17 = .ok (.iaload, 1) := by decide +kernel
theorem dL_on_18 : decode cL_on 18 = .ok (.iload_n 2, 1) := by decide +kernel
theorem dL_on_19 : decode cL_on 19 = .ok (.if_icmp .ne 8, 3) := by decide +kernel
theorem dL_on_22 : decode cL_on 22 = .ok (.iload 4, 2) := by decide +kernel
theorem dL_on_24 : decode cL_on 24 = .ok (.goto 4, 3) := by decide +kernel
theorem dL_on_27 : decode cL_on 27 = .ok (.iload_n 3, 1) := by decide +kernel
theorem dL_on_28 : decode cL_on 28 = .ok (.istore_n 3, 1) := by decide +kernel
theorem dL_on_29 : decode cL_on 29 = .ok (.iinc 4 1, 3) := by decide +kernel
theorem dL_on_32 : decode cL_on 32 = .ok (.goto (-27), 3) := by decide +kernel
theorem dL_on_35 : decode cL_on 35 = .ok (.iload_n 3, 1) := by decide +kernel
theorem dL_on_36 : decode cL_on 36 = .ok (.ireturn, 1) := by decide +kernel
theorem dL_by_0 : decode cL_by 0 = .ok (.iconst (-1), 1) := by decide +kernel
theorem dL_by_1 : decode cL_by 1 = .ok (.istore 4, 2) := by decide +kernel
theorem dL_by_3 : decode cL_by 3 = .ok (.iconst 0, 1) := by decide +kernel
theorem dL_by_4 : decode cL_by 4 = .ok (.istore 5, 2) := by decide +kernel
theorem dL_by_6 : decode cL_by 6 = .ok (.iload 5, 2) := by decide +kernel
theorem dL_by_8 : decode cL_by 8 = .ok (.aload_n 2, 1) := by decide +kernel
theorem dL_by_9 : decode cL_by 9 = .ok (.bipush 7, 2) := by decide +kernel
theorem dL_by_11 : decode cL_by 11 = .ok (.iaload, 1) := by decide +kernel
theorem dL_by_12 : decode cL_by 12 = .ok (.if_icmp .ge 33, 3) := by decide +kernel
theorem dL_by_15 : decode cL_by 15 = .ok (.aload_n 0, 1) := by decide +kernel
theorem dL_by_16 : decode cL_by 16 = .ok (.iload 5, 2) := by decide +kernel
theorem dL_by_18 : decode cL_by 18 = .ok (.iaload, 1) := by decide +kernel
theorem dL_by_19 : decode cL_by 19 = .ok (.ifCond .lt 16, 3) := by decide +kernel
theorem dL_by_22 : decode cL_by 22 = .ok (.aload_n 1, 1) := by decide +kernel
theorem dL_by_23 : decode cL_by 23 = .ok (.iload 5, 2) := by decide +kernel
theorem dL_by_25 : decode cL_by 25 = .ok (.iaload, 1) := by decide +kernel
theorem dL_by_26 : decode cL_by 26 = .ok (.iload_n 3, 1) := by decide +kernel
theorem dL_by_27 : decode cL_by 27 = .ok (.if_icmp .ne 8, 3) := by decide +kernel
theorem dL_by_30 : decode cL_by 30 = .ok (.iload 5, 2) := by decide +kernel
theorem dL_by_32 : decode cL_by 32 = .ok (.goto 5, 3) := by decide +kernel
theorem dL_by_35 : decode cL_by 35 = .ok (.iload 4, 2) := by decide +kernel
theorem dL_by_37 : decode cL_by 37 = .ok (.istore 4, 2) := by decide +kernel
theorem dL_by_39 : decode cL_by 39 = .ok (.iinc 5 1, 3) := by decide +kernel
theorem dL_by_42 : decode cL_by 42 = .ok (.goto (-36), 3) := by decide +kernel
theorem dL_by_45 : decode cL_by 45 = .ok (.iload 4, 2) := by decide +kernel
theorem dL_by_47 : decode cL_by 47 = .ok (.ireturn, 1) := by decide +kernel
set_option maxRecDepth 20000 in
theorem ggL_place_L_code : GoodIn wsL_place wsL_code := goodIn_r _ [4, 5, 6, 3, 7] (by decide +kernel) (by decide +kernel)
set_option maxRecDepth 20000 in
theorem gL_place_L_code : GoodIn wsL_place (va_wsS RL 16 yL_code wsL_code) := goodIn_app (goodIn_of _ (by decide +kernel)) ggL_place_L_code
set_option maxRecDepth 20000 in
theorem ggL_place_L_until : GoodIn wsL_place wsL_until := goodIn_r _ [10] (by decide +kernel) (by decide +kernel)
set_option maxRecDepth 20000 in
theorem gL_place_L_until : GoodIn wsL_place (va_wsS RL 20 yL_until wsL_until) := goodIn_app (goodIn_of _ (by decide +kernel)) ggL_place_L_until
set_option maxRecDepth 20000 in
theorem ggL_place_L_on : GoodIn wsL_place wsL_on := goodIn_r _ [13] (by decide +kernel) (by decide +kernel)
set_option maxRecDepth 20000 in
theorem gL_place_L_on : GoodIn wsL_place (va_wsS RL 24 yL_on wsL_on) := goodIn_app (goodIn_of _ (by decide +kernel)) ggL_place_L_on
theorem dL_place_0 : decode cL_place 0 = .ok (.bipush (-6), 2) := by decide +kernel
theorem dL_place_2 : decode cL_place 2 = .ok (.istore 6, 2) := by decide +kernel
theorem dL_place_4 : decode cL_place 4 = .ok (.bipush 8, 2) := by decide +kernel
theorem dL_place_6 : decode cL_place 6 = .ok (.iload 5, 2) := by decide +kernel
theorem dL_place_8 : decode cL_place 8 = .ok (.imul, 1) := by decide +kernel
theorem dL_place_9 : decode cL_place 9 = .ok (.bipush 7, 2) := by decide +kernel
theorem dL_place_11 : decode cL_place 11 = .ok (.iadd, 1) := by decide +kernel
theorem dL_place_12 : decode cL_place 12 = .ok (.istore 7, 2) := by decide +kernel
theorem dL_place_14 : decode cL_place 14 = .ok (.iload 7, 2) := by decide +kernel
theorem dL_place_16 : decode cL_place 16 = .ok (.bipush 8, 2) := by decide +kernel
theorem dL_place_18 : decode cL_place 18 = .ok (.iload 4, 2) := by decide +kernel
theorem dL_place_20 : decode cL_place 20 = .ok (.imul, 1) := by decide +kernel
theorem dL_place_21 : decode cL_place 21 = .ok (.if_icmp .lt 75, 3) := by decide +kernel
theorem dL_place_24 : decode cL_place 24 = .ok (.aload_n 1, 1) := by decide +kernel
theorem dL_place_25 : decode cL_place 25 = .ok (.aload_n 2, 1) := by decide +kernel
theorem dL_place_26 : decode cL_place 26 = .ok (.aload_n 3, 1) := by decide +kernel
theorem dL_place_27 : decode cL_place 27 = .ok (.aload_n 3, 1) := by decide +kernel
theorem dL_place_28 : decode cL_place 28 = .ok (.iconst 5, 1) := by decide +kernel
theorem dL_place_29 : decode cL_place 29 = .ok (.iaload, 1) := by decide +kernel
theorem dL_place_30 : decode cL_place 30 = .ok (.iload 7, 2) := by decide +kernel
theorem dL_place_32 : decode cL_place 32 = .ok (.invokestatic 16, 3) := by decide +kernel
theorem dL_place_35 : decode cL_place 35 = .ok (.invokestatic 20, 3) := by decide +kernel
theorem dL_place_38 : decode cL_place 38 = .ok (.aload_n 3, 1) := by decide +kernel
theorem dL_place_39 : decode cL_place 39 = .ok (.iconst 5, 1) := by decide +kernel
theorem dL_place_40 : decode cL_place 40 = .ok (.iaload, 1) := by decide +kernel
theorem dL_place_41 : decode cL_place 41 = .ok (.if_icmp .le 7, 3) := by decide +kernel
theorem dL_place_44 : decode cL_place 44 = .ok (.iconst 1, 1) := by decide +kernel
theorem dL_place_45 : decode cL_place 45 = .ok (.goto 4, 3) := by decide +kernel
theorem dL_place_48 : decode cL_place 48 = .ok (.iconst 0, 1) := by decide +kernel
theorem dL_place_49 : decode cL_place 49 = .ok (.istore 8, 2) := by decide +kernel
theorem dL_place_51 : decode cL_place 51 = .ok (.aload_n 0, 1) := by decide +kernel
theorem dL_place_52 : decode cL_place 52 = .ok (.aload_n 3, 1) := by decide +kernel
theorem dL_place_53 : decode cL_place 53 = .ok (.iload 7, 2) := by decide +kernel
theorem dL_place_55 : decode cL_place 55 = .ok (.invokestatic 24, 3) := by decide +kernel
theorem dL_place_58 : decode cL_place 58 = .ok (.ifCond .lt 8, 3) := by decide +kernel
theorem dL_place_61 : decode cL_place 61 = .ok (.iload 6, 2) := by decide +kernel
theorem dL_place_63 : decode cL_place 63 = .ok (.goto 25, 3) := by decide +kernel
theorem dL_place_66 : decode cL_place 66 = .ok (.iload 8, 2) := by decide +kernel
theorem dL_place_68 : decode cL_place 68 = .ok (.ifCond .ne 8, 3) := by decide +kernel
theorem dL_place_71 : decode cL_place 71 = .ok (.iload 7, 2) := by decide +kernel
theorem dL_place_73 : decode cL_place 73 = .ok (.goto 15, 3) := by decide +kernel
theorem dL_place_76 : decode cL_place 76 = .ok (.iload 6, 2) := by decide +kernel
theorem dL_place_78 : decode cL_place 78 = .ok (.ifCond .ge 8, 3) := by decide +kernel
theorem dL_place_81 : decode cL_place 81 = .ok (.bipush (-5), 2) := by decide +kernel
theorem dL_place_83 : decode cL_place 83 = .ok (.goto 5, 3) := by decide +kernel
theorem dL_place_86 : decode cL_place 86 = .ok (.iload 6, 2) := by decide +kernel
theorem dL_place_88 : decode cL_place 88 = .ok (.istore 6, 2) := by decide +kernel
theorem dL_place_90 : decode cL_place 90 = .ok (.iinc 7 (-1), 3) := by decide +kernel
theorem dL_place_93 : decode cL_place 93 = .ok (.goto (-79), 3) := by decide +kernel
theorem dL_place_96 : decode cL_place 96 = .ok (.iload 6, 2) := by decide +kernel
theorem dL_place_98 : decode cL_place 98 = .ok (.ireturn, 1) := by decide +kernel
theorem dL_sender_0 : decode cL_sender 0 = .ok (.aload_n 0, 1) := by decide +kernel
theorem dL_sender_1 : decode cL_sender 1 = .ok (.iload_n 1, 1) := by decide +kernel
theorem dL_sender_2 : decode cL_sender 2 = .ok (.iaload, 1) := by decide +kernel
theorem dL_sender_3 : decode cL_sender 3 = .ok (.sipush 1000, 3) := by decide +kernel
theorem dL_sender_6 : decode cL_sender 6 = .ok (.irem, 1) := by decide +kernel
theorem dL_sender_7 : decode cL_sender 7 = .ok (.bipush 100, 2) := by decide +kernel
theorem dL_sender_9 : decode cL_sender 9 = .ok (.idiv, 1) := by decide +kernel
theorem dL_sender_10 : decode cL_sender 10 = .ok (.ireturn, 1) := by decide +kernel
theorem dL_size_0 : decode cL_size 0 = .ok (.aload_n 0, 1) := by decide +kernel
theorem dL_size_1 : decode cL_size 1 = .ok (.iload_n 1, 1) := by decide +kernel
theorem dL_size_2 : decode cL_size 2 = .ok (.iaload, 1) := by decide +kernel
theorem dL_size_3 : decode cL_size 3 = .ok (.bipush 100, 2) := by decide +kernel
theorem dL_size_5 : decode cL_size 5 = .ok (.irem, 1) := by decide +kernel
theorem dL_size_6 : decode cL_size 6 = .ok (.bipush 10, 2) := by decide +kernel
theorem dL_size_8 : decode cL_size 8 = .ok (.idiv, 1) := by decide +kernel
theorem dL_size_9 : decode cL_size 9 = .ok (.ireturn, 1) := by decide +kernel
set_option maxRecDepth 20000 in
theorem ggL_fee_L_size : GoodIn wsL_fee wsL_size := goodIn_r _ [4] (by decide +kernel) (by decide +kernel)
set_option maxRecDepth 20000 in
theorem gL_fee_L_size : GoodIn wsL_fee (va_wsS RL 28 yL_size wsL_size) := goodIn_app (goodIn_of _ (by decide +kernel)) ggL_fee_L_size
theorem dL_fee_0 : decode cL_fee 0 = .ok (.iload_n 3, 1) := by decide +kernel
theorem dL_fee_1 : decode cL_fee 1 = .ok (.aload_n 0, 1) := by decide +kernel
theorem dL_fee_2 : decode cL_fee 2 = .ok (.iload_n 2, 1) := by decide +kernel
theorem dL_fee_3 : decode cL_fee 3 = .ok (.iaload, 1) := by decide +kernel
theorem dL_fee_4 : decode cL_fee 4 = .ok (.sipush 1000, 3) := by decide +kernel
theorem dL_fee_7 : decode cL_fee 7 = .ok (.idiv, 1) := by decide +kernel
theorem dL_fee_8 : decode cL_fee 8 = .ok (.isub, 1) := by decide +kernel
theorem dL_fee_9 : decode cL_fee 9 = .ok (.aload_n 1, 1) := by decide +kernel
theorem dL_fee_10 : decode cL_fee 10 = .ok (.iconst 1, 1) := by decide +kernel
theorem dL_fee_11 : decode cL_fee 11 = .ok (.iaload, 1) := by decide +kernel
theorem dL_fee_12 : decode cL_fee 12 = .ok (.isub, 1) := by decide +kernel
theorem dL_fee_13 : decode cL_fee 13 = .ok (.istore 4, 2) := by decide +kernel
theorem dL_fee_15 : decode cL_fee 15 = .ok (.iload 4, 2) := by decide +kernel
theorem dL_fee_17 : decode cL_fee 17 = .ok (.iconst 1, 1) := by decide +kernel
theorem dL_fee_18 : decode cL_fee 18 = .ok (.if_icmp .ge 7, 3) := by decide +kernel
theorem dL_fee_21 : decode cL_fee 21 = .ok (.iconst 0, 1) := by decide +kernel
theorem dL_fee_22 : decode cL_fee 22 = .ok (.goto 17, 3) := by decide +kernel
theorem dL_fee_25 : decode cL_fee 25 = .ok (.aload_n 0, 1) := by decide +kernel
theorem dL_fee_26 : decode cL_fee 26 = .ok (.iload_n 2, 1) := by decide +kernel
theorem dL_fee_27 : decode cL_fee 27 = .ok (.invokestatic 28, 3) := by decide +kernel
theorem dL_fee_30 : decode cL_fee 30 = .ok (.iconst 1, 1) := by decide +kernel
theorem dL_fee_31 : decode cL_fee 31 = .ok (.iadd, 1) := by decide +kernel
theorem dL_fee_32 : decode cL_fee 32 = .ok (.aload_n 1, 1) := by decide +kernel
theorem dL_fee_33 : decode cL_fee 33 = .ok (.iconst 2, 1) := by decide +kernel
theorem dL_fee_34 : decode cL_fee 34 = .ok (.iaload, 1) := by decide +kernel
theorem dL_fee_35 : decode cL_fee 35 = .ok (.imul, 1) := by decide +kernel
theorem dL_fee_36 : decode cL_fee 36 = .ok (.iload 4, 2) := by decide +kernel
theorem dL_fee_38 : decode cL_fee 38 = .ok (.imul, 1) := by decide +kernel
theorem dL_fee_39 : decode cL_fee 39 = .ok (.ireturn, 1) := by decide +kernel
theorem dL_leaves_0 : decode cL_leaves 0 = .ok (.aload_n 2, 1) := by decide +kernel
theorem dL_leaves_1 : decode cL_leaves 1 = .ok (.aload 4, 2) := by decide +kernel
theorem dL_leaves_3 : decode cL_leaves 3 = .ok (.bipush 8, 2) := by decide +kernel
theorem dL_leaves_5 : decode cL_leaves 5 = .ok (.iaload, 1) := by decide +kernel
theorem dL_leaves_6 : decode cL_leaves 6 = .ok (.aload_n 1, 1) := by decide +kernel
theorem dL_leaves_7 : decode cL_leaves 7 = .ok (.iload 5, 2) := by decide +kernel
theorem dL_leaves_9 : decode cL_leaves 9 = .ok (.iaload, 1) := by decide +kernel
theorem dL_leaves_10 : decode cL_leaves 10 = .ok (.iastore, 1) := by decide +kernel
theorem dL_leaves_11 : decode cL_leaves 11 = .ok (.aload_n 3, 1) := by decide +kernel
theorem dL_leaves_12 : decode cL_leaves 12 = .ok (.aload 4, 2) := by decide +kernel
theorem dL_leaves_14 : decode cL_leaves 14 = .ok (.bipush 8, 2) := by decide +kernel
theorem dL_leaves_16 : decode cL_leaves 16 = .ok (.iaload, 1) := by decide +kernel
theorem dL_leaves_17 : decode cL_leaves 17 = .ok (.aload 4, 2) := by decide +kernel
theorem dL_leaves_19 : decode cL_leaves 19 = .ok (.iconst 5, 1) := by decide +kernel
theorem dL_leaves_20 : decode cL_leaves 20 = .ok (.iaload, 1) := by decide +kernel
theorem dL_leaves_21 : decode cL_leaves 21 = .ok (.iastore, 1) := by decide +kernel
theorem dL_leaves_22 : decode cL_leaves 22 = .ok (.aload 4, 2) := by decide +kernel
theorem dL_leaves_24 : decode cL_leaves 24 = .ok (.bipush 8, 2) := by decide +kernel
theorem dL_leaves_26 : decode cL_leaves 26 = .ok (.dup2, 1) := by decide +kernel
theorem dL_leaves_27 : decode cL_leaves 27 = .ok (.iaload, 1) := by decide +kernel
theorem dL_leaves_28 : decode cL_leaves 28 = .ok (.iconst 1, 1) := by decide +kernel
theorem dL_leaves_29 : decode cL_leaves 29 = .ok (.iadd, 1) := by decide +kernel
theorem dL_leaves_30 : decode cL_leaves 30 = .ok (.iastore, 1) := by decide +kernel
theorem dL_leaves_31 : decode cL_leaves 31 = .ok (.aload_n 0, 1) := by decide +kernel
theorem dL_leaves_32 : decode cL_leaves 32 = .ok (.iload 5, 2) := by decide +kernel
theorem dL_leaves_34 : decode cL_leaves 34 = .ok (.iconst (-1), 1) := by decide +kernel
theorem dL_leaves_35 : decode cL_leaves 35 = .ok (.iastore, 1) := by decide +kernel
theorem dL_leaves_36 : decode cL_leaves 36 = .ok (.return_, 1) := by decide +kernel
theorem dL_takes_0 : decode cL_takes 0 = .ok (.aload_n 0, 1) := by decide +kernel
theorem dL_takes_1 : decode cL_takes 1 = .ok (.iload 4, 2) := by decide +kernel
theorem dL_takes_3 : decode cL_takes 3 = .ok (.iaload, 1) := by decide +kernel
theorem dL_takes_4 : decode cL_takes 4 = .ok (.iload 5, 2) := by decide +kernel
theorem dL_takes_6 : decode cL_takes 6 = .ok (.imul, 1) := by decide +kernel
theorem dL_takes_7 : decode cL_takes 7 = .ok (.aload_n 3, 1) := by decide +kernel
theorem dL_takes_8 : decode cL_takes 8 = .ok (.iconst 2, 1) := by decide +kernel
theorem dL_takes_9 : decode cL_takes 9 = .ok (.iaload, 1) := by decide +kernel
theorem dL_takes_10 : decode cL_takes 10 = .ok (.imul, 1) := by decide +kernel
theorem dL_takes_11 : decode cL_takes 11 = .ok (.istore 6, 2) := by decide +kernel
theorem dL_takes_13 : decode cL_takes 13 = .ok (.aload_n 1, 1) := by decide +kernel
theorem dL_takes_14 : decode cL_takes 14 = .ok (.iload 4, 2) := by decide +kernel
theorem dL_takes_16 : decode cL_takes 16 = .ok (.dup2, 1) := by decide +kernel
theorem dL_takes_17 : decode cL_takes 17 = .ok (.iaload, 1) := by decide +kernel
theorem dL_takes_18 : decode cL_takes 18 = .ok (.iload 6, 2) := by decide +kernel
theorem dL_takes_20 : decode cL_takes 20 = .ok (.iadd, 1) := by decide +kernel
theorem dL_takes_21 : decode cL_takes 21 = .ok (.iastore, 1) := by decide +kernel
theorem dL_takes_22 : decode cL_takes 22 = .ok (.aload_n 2, 1) := by decide +kernel
theorem dL_takes_23 : decode cL_takes 23 = .ok (.iload 4, 2) := by decide +kernel
theorem dL_takes_25 : decode cL_takes 25 = .ok (.dup2, 1) := by decide +kernel
theorem dL_takes_26 : decode cL_takes 26 = .ok (.iaload, 1) := by decide +kernel
theorem dL_takes_27 : decode cL_takes 27 = .ok (.aload_n 0, 1) := by decide +kernel
theorem dL_takes_28 : decode cL_takes 28 = .ok (.iload 4, 2) := by decide +kernel
theorem dL_takes_30 : decode cL_takes 30 = .ok (.iaload, 1) := by decide +kernel
theorem dL_takes_31 : decode cL_takes 31 = .ok (.iadd, 1) := by decide +kernel
theorem dL_takes_32 : decode cL_takes 32 = .ok (.iastore, 1) := by decide +kernel
theorem dL_takes_33 : decode cL_takes 33 = .ok (.aload_n 0, 1) := by decide +kernel
theorem dL_takes_34 : decode cL_takes 34 = .ok (.iload 4, 2) := by decide +kernel
theorem dL_takes_36 : decode cL_takes 36 = .ok (.iconst 0, 1) := by decide +kernel
theorem dL_takes_37 : decode cL_takes 37 = .ok (.iastore, 1) := by decide +kernel
theorem dL_takes_38 : decode cL_takes 38 = .ok (.iload 6, 2) := by decide +kernel
theorem dL_takes_40 : decode cL_takes 40 = .ok (.ireturn, 1) := by decide +kernel
set_option maxRecDepth 20000 in
theorem ggL_day_L_takes : GoodIn wsL_day wsL_takes := goodIn_r _ [4] (by decide +kernel) (by decide +kernel)
set_option maxRecDepth 20000 in
theorem gL_day_L_takes : GoodIn wsL_day (va_wsS RL 32 yL_takes wsL_takes) := goodIn_app (goodIn_of _ (by decide +kernel)) ggL_day_L_takes
set_option maxRecDepth 20000 in
theorem ggL_day_L_on : GoodIn wsL_day wsL_on := goodIn_r _ [7] (by decide +kernel) (by decide +kernel)
set_option maxRecDepth 20000 in
theorem gL_day_L_on : GoodIn wsL_day (va_wsS RL 24 yL_on wsL_on) := goodIn_app (goodIn_of _ (by decide +kernel)) ggL_day_L_on
set_option maxRecDepth 20000 in
theorem ggL_day_L_sender : GoodIn wsL_day wsL_sender := goodIn_r _ [10] (by decide +kernel) (by decide +kernel)
set_option maxRecDepth 20000 in
theorem gL_day_L_sender : GoodIn wsL_day (va_wsS RL 36 yL_sender wsL_sender) := goodIn_app (goodIn_of _ (by decide +kernel)) ggL_day_L_sender
set_option maxRecDepth 20000 in
theorem ggL_day_L_leaves : GoodIn wsL_day wsL_leaves := goodIn_r _ [13] (by decide +kernel) (by decide +kernel)
set_option maxRecDepth 20000 in
theorem gL_day_L_leaves : GoodIn wsL_day (va_wsS RL 39 yL_leaves wsL_leaves) := goodIn_app (goodIn_of _ (by decide +kernel)) ggL_day_L_leaves
theorem dL_day_0 : decode cL_day 0 = .ok (.iconst 0, 1) := by decide +kernel
theorem dL_day_1 : decode cL_day 1 = .ok (.istore 9, 2) := by decide +kernel
theorem dL_day_3 : decode cL_day 3 = .ok (.aload 8, 2) := by decide +kernel
theorem dL_day_5 : decode cL_day 5 = .ok (.iconst 5, 1) := by decide +kernel
theorem dL_day_6 : decode cL_day 6 = .ok (.dup2, 1) := by decide +kernel
theorem dL_day_7 : decode cL_day 7 = .ok (.iaload, 1) := by decide +kernel
theorem dL_day_8 : decode cL_day 8 = .ok (.iconst 1, 1) := by decide +kernel
theorem dL_day_9 : decode cL_day 9 = .ok (.iadd, 1) := by decide +kernel
theorem dL_day_10 : decode cL_day 10 = .ok (.iastore, 1) := by decide +kernel
theorem dL_day_11 : decode cL_day 11 = .ok (.aload 8, 2) := by decide +kernel
theorem dL_day_13 : decode cL_day 13 = .ok (.bipush 6, 2) := by decide +kernel
theorem dL_day_15 : decode cL_day 15 = .ok (.iconst 0, 1) := by decide +kernel
theorem dL_day_16 : decode cL_day 16 = .ok (.iastore, 1) := by decide +kernel
theorem dL_day_17 : decode cL_day 17 = .ok (.iconst 0, 1) := by decide +kernel
theorem dL_day_18 : decode cL_day 18 = .ok (.istore 10, 2) := by decide +kernel
theorem dL_day_20 : decode cL_day 20 = .ok (.iload 10, 2) := by decide +kernel
theorem dL_day_22 : decode cL_day 22 = .ok (.bipush 10, 2) := by decide +kernel
theorem dL_day_24 : decode cL_day 24 = .ok (.if_icmp .ge 45, 3) := by decide +kernel
theorem dL_day_27 : decode cL_day 27 = .ok (.aload 8, 2) := by decide +kernel
theorem dL_day_29 : decode cL_day 29 = .ok (.iconst 5, 1) := by decide +kernel
theorem dL_day_30 : decode cL_day 30 = .ok (.iaload, 1) := by decide +kernel
theorem dL_day_31 : decode cL_day 31 = .ok (.iconst 3, 1) := by decide +kernel
theorem dL_day_32 : decode cL_day 32 = .ok (.irem, 1) := by decide +kernel
theorem dL_day_33 : decode cL_day 33 = .ok (.ifCond .ne 30, 3) := by decide +kernel
theorem dL_day_36 : decode cL_day 36 = .ok (.aload 5, 2) := by decide +kernel
theorem dL_day_38 : decode cL_day 38 = .ok (.iload 10, 2) := by decide +kernel
theorem dL_day_40 : decode cL_day 40 = .ok (.iaload, 1) := by decide +kernel
theorem dL_day_41 : decode cL_day 41 = .ok (.aload 8, 2) := by decide +kernel
theorem dL_day_43 : decode cL_day 43 = .ok (.iconst 4, 1) := by decide +kernel
theorem dL_day_44 : decode cL_day 44 = .ok (.iaload, 1) := by decide +kernel
theorem dL_day_45 : decode cL_day 45 = .ok (.if_icmp .lt 18, 3) := by decide +kernel
theorem dL_day_48 : decode cL_day 48 = .ok (.aload 5, 2) := by decide +kernel
theorem dL_day_50 : decode cL_day 50 = .ok (.aload 6, 2) := by decide +kernel
theorem dL_day_52 : decode cL_day 52 = .ok (.aload 7, 2) := by decide +kernel
theorem dL_day_54 : decode cL_day 54 = .ok (.aload 8, 2) := by decide +kernel
theorem dL_day_56 : decode cL_day 56 = .ok (.iload 10, 2) := by decide +kernel
theorem dL_day_58 : decode cL_day 58 = .ok (.iconst 4, 1) := by decide +kernel
theorem dL_day_59 : decode cL_day 59 = .ok (.invokestatic 32, 3) := by decide +kernel
theorem dL_day_62 : decode cL_day 62 = .ok (.pop, 1) := by decide +kernel
theorem dL_day_63 : decode cL_day 63 = .ok (.iinc 10 1, 3) := by decide +kernel
theorem dL_day_66 : decode cL_day 66 = .ok (.goto (-46), 3) := by decide +kernel
theorem dL_day_69 : decode cL_day 69 = .ok (.iconst 0, 1) := by decide +kernel
theorem dL_day_70 : decode cL_day 70 = .ok (.istore 10, 2) := by decide +kernel
theorem dL_day_72 : decode cL_day 72 = .ok (.iload 10, 2) := by decide +kernel
theorem dL_day_74 : decode cL_day 74 = .ok (.bipush 48, 2) := by decide +kernel
theorem dL_day_76 : decode cL_day 76 = .ok (.if_icmp .ge 86, 3) := by decide +kernel
theorem dL_day_79 : decode cL_day 79 = .ok (.aload_n 0, 1) := by decide +kernel
theorem dL_day_80 : decode cL_day 80 = .ok (.aload 8, 2) := by decide +kernel
theorem dL_day_82 : decode cL_day 82 = .ok (.iload 10, 2) := by decide +kernel
theorem dL_day_84 : decode cL_day 84 = .ok (.invokestatic 24, 3) := by decide +kernel
theorem dL_day_87 : decode cL_day 87 = .ok (.istore 11, 2) := by decide +kernel
theorem dL_day_89 : decode cL_day 89 = .ok (.iload 11, 2) := by decide +kernel
theorem dL_day_91 : decode cL_day 91 = .ok (.ifCond .lt 65, 3) := by decide +kernel
theorem dL_day_94 : decode cL_day 94 = .ok (.aload 8, 2) := by decide +kernel
theorem dL_day_96 : decode cL_day 96 = .ok (.iconst 5, 1) := by decide +kernel
theorem dL_day_97 : decode cL_day 97 = .ok (.iaload, 1) := by decide +kernel
theorem dL_day_98 : decode cL_day 98 = .ok (.aload_n 1, 1) := by decide +kernel
theorem dL_day_99 : decode cL_day 99 = .ok (.iload 11, 2) := by decide +kernel
theorem dL_day_101 : decode cL_day 101 = .ok (.iaload, 1) := by decide +kernel
theorem dL_day_102 : decode cL_day 102 = .ok (.sipush 1000, 3) := by decide +kernel
theorem dL_day_105 : decode cL_day 105 = .ok (.idiv, 1) := by decide +kernel
theorem dL_day_106 : decode cL_day 106 = .ok (.isub, 1) := by decide +kernel
theorem dL_day_107 : decode cL_day 107 = .ok (.aload 8, 2) := by decide +kernel
theorem dL_day_109 : decode cL_day 109 = .ok (.iconst 3, 1) := by decide +kernel
theorem dL_day_110 : decode cL_day 110 = .ok (.iaload, 1) := by decide +kernel
theorem dL_day_111 : decode cL_day 111 = .ok (.if_icmp .le 45, 3) := by decide +kernel
theorem dL_day_114 : decode cL_day 114 = .ok (.aload 5, 2) := by decide +kernel
theorem dL_day_116 : decode cL_day 116 = .ok (.aload_n 1, 1) := by decide +kernel
theorem dL_day_117 : decode cL_day 117 = .ok (.iload 11, 2) := by decide +kernel
theorem dL_day_119 : decode cL_day 119 = .ok (.invokestatic 36, 3) := by decide +kernel
theorem dL_day_122 : decode cL_day 122 = .ok (.iaload, 1) := by decide +kernel
theorem dL_day_123 : decode cL_day 123 = .ok (.bipush 9, 2) := by decide +kernel
theorem dL_day_125 : decode cL_day 125 = .ok (.if_icmp .ge 31, 3) := by decide +kernel
theorem dL_day_128 : decode cL_day 128 = .ok (.aload 5, 2) := by decide +kernel
theorem dL_day_130 : decode cL_day 130 = .ok (.aload_n 1, 1) := by decide +kernel
theorem dL_day_131 : decode cL_day 131 = .ok (.iload 11, 2) := by decide +kernel
theorem dL_day_133 : decode cL_day 133 = .ok (.invokestatic 36, 3) := by decide +kernel
theorem dL_day_136 : decode cL_day 136 = .ok (.dup2, 1) := by decide +kernel
theorem dL_day_137 : decode cL_day 137 = .ok (.iaload, 1) := by decide +kernel
theorem dL_day_138 : decode cL_day 138 = .ok (.iconst 1, 1) := by decide +kernel
theorem dL_day_139 : decode cL_day 139 = .ok (.iadd, 1) := by decide +kernel
theorem dL_day_140 : decode cL_day 140 = .ok (.iastore, 1) := by decide +kernel
theorem dL_day_141 : decode cL_day 141 = .ok (.aload_n 0, 1) := by decide +kernel
theorem dL_day_142 : decode cL_day 142 = .ok (.aload_n 2, 1) := by decide +kernel
theorem dL_day_143 : decode cL_day 143 = .ok (.aload_n 3, 1) := by decide +kernel
theorem dL_day_144 : decode cL_day 144 = .ok (.aload 4, 2) := by decide +kernel
theorem dL_day_146 : decode cL_day 146 = .ok (.aload 8, 2) := by decide +kernel
theorem dL_day_148 : decode cL_day 148 = .ok (.iload 11, 2) := by decide +kernel
theorem dL_day_150 : decode cL_day 150 = .ok (.invokestatic 39, 3) := by decide +kernel
theorem dL_day_153 : decode cL_day 153 = .ok (.iinc 9 1, 3) := by decide +kernel
theorem dL_day_156 : decode cL_day 156 = .ok (.iinc 10 1, 3) := by decide +kernel
theorem dL_day_159 : decode cL_day 159 = .ok (.goto (-87), 3) := by decide +kernel
theorem dL_day_162 : decode cL_day 162 = .ok (.iload 9, 2) := by decide +kernel
theorem dL_day_164 : decode cL_day 164 = .ok (.ireturn, 1) := by decide +kernel
theorem dL_sum_0 : decode cL_sum 0 = .ok (.iconst 0, 1) := by decide +kernel
theorem dL_sum_1 : decode cL_sum 1 = .ok (.istore_n 1, 1) := by decide +kernel
theorem dL_sum_2 : decode cL_sum 2 = .ok (.iconst 0, 1) := by decide +kernel
theorem dL_sum_3 : decode cL_sum 3 = .ok (.istore_n 2, 1) := by decide +kernel
theorem dL_sum_4 : decode cL_sum 4 = .ok (.iload_n 2, 1) := by decide +kernel
theorem dL_sum_5 : decode cL_sum 5 = .ok (.bipush 10, 2) := by decide +kernel
theorem dL_sum_7 : decode cL_sum 7 = .ok (.if_icmp .ge 15, 3) := by decide +kernel
theorem dL_sum_10 : decode cL_sum 10 = .ok (.iload_n 1, 1) := by decide +kernel
theorem dL_sum_11 : decode cL_sum 11 = .ok (.aload_n 0, 1) := by decide +kernel
theorem dL_sum_12 : decode cL_sum 12 = .ok (.iload_n 2, 1) := by decide +kernel
theorem dL_sum_13 : decode cL_sum 13 = .ok (.iaload, 1) := by decide +kernel
theorem dL_sum_14 : decode cL_sum 14 = .ok (.iadd, 1) := by decide +kernel
theorem dL_sum_15 : decode cL_sum 15 = .ok (.istore_n 1, 1) := by decide +kernel
theorem dL_sum_16 : decode cL_sum 16 = .ok (.iinc 2 1, 3) := by decide +kernel
theorem dL_sum_19 : decode cL_sum 19 = .ok (.goto (-15), 3) := by decide +kernel
theorem dL_sum_22 : decode cL_sum 22 = .ok (.iload_n 1, 1) := by decide +kernel
theorem dL_sum_23 : decode cL_sum 23 = .ok (.ireturn, 1) := by decide +kernel
set_option maxRecDepth 20000 in
theorem ggL_shop_L_fee : GoodIn wsL_shop wsL_fee := goodIn_r _ [4, 5, 6, 3, 7] (by decide +kernel) (by decide +kernel)
set_option maxRecDepth 20000 in
theorem gL_shop_L_fee : GoodIn wsL_shop (va_wsS RL 43 yL_fee wsL_fee) := goodIn_app (goodIn_of _ (by decide +kernel)) ggL_shop_L_fee
set_option maxRecDepth 20000 in
theorem ggL_shop_X3_parcel : GoodIn wsL_shop wsX3_parcel := goodIn_r _ [12, 13, 14, 15, 16, 17, 18, 19, 20, 21, 22, 23, 11, 24, 25, 26, 27, 28, 29, 30, 31, 32, 33, 34, 35, 36, 37, 38, 39, 40, 41, 42, 43, 44, 45, 46, 47, 48, 172, 173, 174, 175, 176, 177, 178, 179, 180, 181, 182, 183, 184, 185, 186, 187, 188, 189, 190, 191, 192, 193] (by decide +kernel) (by decide +kernel)
set_option maxRecDepth 20000 in
theorem gL_shop_X3_parcel : GoodIn wsL_shop (wsV RL 47 RX3 yX3_parcel wsX3_parcel) := goodIn_app (goodIn_of _ (by decide +kernel)) ggL_shop_X3_parcel
set_option maxRecDepth 20000 in
theorem ggL_shop_L_sender : GoodIn wsL_shop wsL_sender := goodIn_r _ [51] (by decide +kernel) (by decide +kernel)
set_option maxRecDepth 20000 in
theorem gL_shop_L_sender : GoodIn wsL_shop (va_wsS RL 36 yL_sender wsL_sender) := goodIn_app (goodIn_of _ (by decide +kernel)) ggL_shop_L_sender
set_option maxRecDepth 20000 in
theorem ggL_shop_L_size : GoodIn wsL_shop wsL_size := goodIn_r _ [7] (by decide +kernel) (by decide +kernel)
set_option maxRecDepth 20000 in
theorem gL_shop_L_size : GoodIn wsL_shop (va_wsS RL 28 yL_size wsL_size) := goodIn_app (goodIn_of _ (by decide +kernel)) ggL_shop_L_size
set_option maxRecDepth 20000 in
theorem ggL_shop_X3_codeAt : GoodIn wsL_shop wsX3_codeAt := goodIn_r _ [55, 13, 28, 29, 11, 30, 25, 26, 27, 56, 57, 58, 20, 59, 22, 60, 61, 62, 63, 64, 65, 31, 32, 33, 172, 173, 174, 175, 176, 177, 178, 179, 180, 181, 182, 183, 184, 185, 186, 187, 188, 189, 190, 191, 192, 193] (by decide +kernel) (by decide +kernel)
set_option maxRecDepth 20000 in
theorem gL_shop_X3_codeAt : GoodIn wsL_shop (wsV RL 52 RX3 yX3_codeAt wsX3_codeAt) := goodIn_app (goodIn_of _ (by decide +kernel)) ggL_shop_X3_codeAt
set_option maxRecDepth 20000 in
theorem ggL_shop_X3_isCode : GoodIn wsL_shop wsX3_isCode := goodIn_r _ [69, 25, 26, 11, 27, 70, 23, 24, 28, 29, 30, 31, 32, 33, 34, 35, 36] (by decide +kernel) (by decide +kernel)
set_option maxRecDepth 20000 in
theorem gL_shop_X3_isCode : GoodIn wsL_shop (wsV RL 55 RX3 yX3_isCode wsX3_isCode) := goodIn_app (goodIn_of _ (by decide +kernel)) ggL_shop_X3_isCode
set_option maxRecDepth 20000 in
theorem ggL_shop_X3_sender : GoodIn wsL_shop wsX3_sender := goodIn_r _ [74, 13, 75, 76, 77, 78, 25, 26, 11, 27, 79, 80, 81, 20, 82, 83, 84, 57, 58, 59, 22, 172, 173, 174, 175, 176, 177, 178, 179, 180, 181, 182, 183, 184, 185, 186, 187, 188, 189, 190, 191, 192, 193] (by decide +kernel) (by decide +kernel)
set_option maxRecDepth 20000 in
theorem gL_shop_X3_sender : GoodIn wsL_shop (wsV RL 59 RX3 yX3_sender wsX3_sender) := goodIn_app (goodIn_of _ (by decide +kernel)) ggL_shop_X3_sender
set_option maxRecDepth 20000 in
theorem ggL_shop_L_on : GoodIn wsL_shop wsL_on := goodIn_r _ [87] (by decide +kernel) (by decide +kernel)
set_option maxRecDepth 20000 in
theorem gL_shop_L_on : GoodIn wsL_shop (va_wsS RL 24 yL_on wsL_on) := goodIn_app (goodIn_of _ (by decide +kernel)) ggL_shop_L_on
set_option maxRecDepth 20000 in
theorem ggL_shop_L_code : GoodIn wsL_shop wsL_code := goodIn_r _ [90, 91, 92, 3, 93] (by decide +kernel) (by decide +kernel)
set_option maxRecDepth 20000 in
theorem gL_shop_L_code : GoodIn wsL_shop (va_wsS RL 16 yL_code wsL_code) := goodIn_app (goodIn_of _ (by decide +kernel)) ggL_shop_L_code
set_option maxRecDepth 20000 in
theorem ggL_shop_L_until : GoodIn wsL_shop wsL_until := goodIn_r _ [96] (by decide +kernel) (by decide +kernel)
set_option maxRecDepth 20000 in
theorem gL_shop_L_until : GoodIn wsL_shop (va_wsS RL 20 yL_until wsL_until) := goodIn_app (goodIn_of _ (by decide +kernel)) ggL_shop_L_until
set_option maxRecDepth 20000 in
theorem ggL_shop_X3_shelf : GoodIn wsL_shop wsX3_shelf := goodIn_r _ [100, 13, 25, 26, 11, 27, 101, 102, 103, 104, 105, 106, 20, 107, 84, 57, 58, 59, 22, 108, 109, 110, 111, 112, 113, 114, 115, 41, 116, 117, 35, 36, 118, 119, 120, 121, 122, 43, 172, 173, 174, 175, 176, 177, 178, 179, 180, 181, 182, 183, 184, 185, 186, 187, 188, 189, 190, 191, 192, 193] (by decide +kernel) (by decide +kernel)
set_option maxRecDepth 20000 in
theorem gL_shop_X3_shelf : GoodIn wsL_shop (wsV RL 61 RX3 yX3_shelf wsX3_shelf) := goodIn_app (goodIn_of _ (by decide +kernel)) ggL_shop_X3_shelf
set_option maxRecDepth 20000 in
theorem ggL_shop_L_place : GoodIn wsL_shop wsL_place := goodIn_r _ [125, 88, 89, 3, 90, 91, 92, 93, 94, 95, 96, 85, 86, 87] (by decide +kernel) (by decide +kernel)
set_option maxRecDepth 20000 in
theorem gL_shop_L_place : GoodIn wsL_shop (va_wsS RL 64 yL_place wsL_place) := goodIn_app (goodIn_of _ (by decide +kernel)) ggL_shop_L_place
set_option maxRecDepth 20000 in
theorem ggL_shop_X3_nextCode : GoodIn wsL_shop wsX3_nextCode := goodIn_r _ [129, 13, 130, 25, 26, 11, 27, 131, 132, 133, 134, 135, 136, 20, 137, 84, 57, 58, 59, 22, 112, 113, 114, 115, 41, 116, 117, 35, 36, 118, 119, 120, 121, 122, 43, 138, 139, 64, 65, 31, 32, 33, 172, 173, 174, 175, 176, 177, 178, 179, 180, 181, 182, 183, 184, 185, 186, 187, 188, 189, 190, 191, 192, 193] (by decide +kernel) (by decide +kernel)
set_option maxRecDepth 20000 in
theorem gL_shop_X3_nextCode : GoodIn wsL_shop (wsV RL 67 RX3 yX3_nextCode wsX3_nextCode) := goodIn_app (goodIn_of _ (by decide +kernel)) ggL_shop_X3_nextCode
set_option maxRecDepth 20000 in
theorem ggL_shop_X3_day : GoodIn wsL_shop wsX3_day := goodIn_r _ [143, 13, 130, 172, 173, 174, 175, 176, 177, 178, 179, 180, 181, 182, 183, 184, 185, 186, 187, 188, 189, 190, 191, 192, 193] (by decide +kernel) (by decide +kernel)
set_option maxRecDepth 20000 in
theorem gL_shop_X3_day : GoodIn wsL_shop (wsV RL 70 RX3 yX3_day wsX3_day) := goodIn_app (goodIn_of _ (by decide +kernel)) ggL_shop_X3_day
set_option maxRecDepth 20000 in
theorem ggL_shop_X3_total : GoodIn wsL_shop wsX3_total := goodIn_r _ [147, 13, 75, 148, 77, 78, 149, 76, 150, 151, 152, 153, 20, 154, 155, 105, 106, 107, 84, 57, 58, 59, 22, 156, 157, 11, 158, 159, 160, 161, 162, 163, 164, 165, 166, 167, 168, 38, 39, 40, 41, 42, 43, 44, 45, 46, 47, 48, 172, 173, 174, 175, 176, 177, 178, 179, 180, 181, 182, 183, 184, 185, 186, 187, 188, 189, 190, 191, 192, 193] (by decide +kernel) (by decide +kernel)
set_option maxRecDepth 20000 in
theorem gL_shop_X3_total : GoodIn wsL_shop (wsV RL 74 RX3 yX3_total wsX3_total) := goodIn_app (goodIn_of _ (by decide +kernel)) ggL_shop_X3_total
set_option maxRecDepth 20000 in
theorem ggL_shop_L_sum : GoodIn wsL_shop wsL_sum := goodIn_r _ [171] (by decide +kernel) (by decide +kernel)
set_option maxRecDepth 20000 in
theorem gL_shop_L_sum : GoodIn wsL_shop (va_wsS RL 77 yL_sum wsL_sum) := goodIn_app (goodIn_of _ (by decide +kernel)) ggL_shop_L_sum
theorem dL_shop_0 : decode cL_shop 0 = .ok (.iconst 0, 1) := by decide +kernel
theorem dL_shop_1 : decode cL_shop 1 = .ok (.istore 11, 2) := by decide +kernel
theorem dL_shop_3 : decode cL_shop 3 = .ok (.iconst 0, 1) := by decide +kernel
theorem dL_shop_4 : decode cL_shop 4 = .ok (.istore 12, 2) := by decide +kernel
theorem dL_shop_6 : decode cL_shop 6 = .ok (.iconst 0, 1) := by decide +kernel
theorem dL_shop_7 : decode cL_shop 7 = .ok (.istore 13, 2) := by decide +kernel
theorem dL_shop_9 : decode cL_shop 9 = .ok (.iload 13, 2) := by decide +kernel
theorem dL_shop_11 : decode cL_shop 11 = .ok (.aload 10, 2) := by decide +kernel
theorem dL_shop_13 : decode cL_shop 13 = .ok (.bipush 7, 2) := by decide +kernel
theorem dL_shop_15 : decode cL_shop 15 = .ok (.iaload, 1) := by decide +kernel
theorem dL_shop_16 : decode cL_shop 16 = .ok (.if_icmp .ge 193, 3) := by decide +kernel
theorem dL_shop_19 : decode cL_shop 19 = .ok (.aload_n 1, 1) := by decide +kernel
theorem dL_shop_20 : decode cL_shop 20 = .ok (.iload 13, 2) := by decide +kernel
theorem dL_shop_22 : decode cL_shop 22 = .ok (.iaload, 1) := by decide +kernel
theorem dL_shop_23 : decode cL_shop 23 = .ok (.ifCond .lt 180, 3) := by decide +kernel
theorem dL_shop_26 : decode cL_shop 26 = .ok (.iinc 11 1, 3) := by decide +kernel
theorem dL_shop_29 : decode cL_shop 29 = .ok (.iload 12, 2) := by decide +kernel
theorem dL_shop_31 : decode cL_shop 31 = .ok (.aload_n 2, 1) := by decide +kernel
theorem dL_shop_32 : decode cL_shop 32 = .ok (.aload 10, 2) := by decide +kernel
theorem dL_shop_34 : decode cL_shop 34 = .ok (.iload 13, 2) := by decide +kernel
theorem dL_shop_36 : decode cL_shop 36 = .ok (.aload 10, 2) := by decide +kernel
theorem dL_shop_38 : decode cL_shop 38 = .ok (.iconst 5, 1) := by decide +kernel
theorem dL_shop_39 : decode cL_shop 39 = .ok (.iaload, 1) := by decide +kernel
theorem dL_shop_40 : decode cL_shop 40 = .ok (.invokestatic 43, 3) := by decide +kernel
theorem dL_shop_43 : decode cL_shop 43 = .ok (.iadd, 1) := by decide +kernel
theorem dL_shop_44 : decode cL_shop 44 = .ok (.istore 12, 2) := by decide +kernel
theorem dL_shop_46 : decode cL_shop 46 = .ok (.aload_n 0, 1) := by decide +kernel
theorem dL_shop_47 : decode cL_shop 47 = .ok (.aload_n 3, 1) := by decide +kernel
theorem dL_shop_48 : decode cL_shop 48 = .ok (.iload 13, 2) := by decide +kernel
theorem dL_shop_50 : decode cL_shop 50 = .ok (.iaload, 1) := by decide +kernel
theorem dL_shop_51 : decode cL_shop 51 = .ok (.iconst 0, 1) := by decide +kernel
theorem dL_shop_52 : decode cL_shop 52 = .ok (.invokevirtual 47, 3) := by decide +kernel
theorem dL_shop_55 : decode cL_shop 55 = .ok (.aload_n 2, 1) := by decide +kernel
theorem dL_shop_56 : decode cL_shop 56 = .ok (.iload 13, 2) := by decide +kernel
theorem dL_shop_58 : decode cL_shop 58 = .ok (.invokestatic 36, 3) := by decide +kernel
theorem dL_shop_61 : decode cL_shop 61 = .ok (.if_icmp .ne 140, 3) := by decide +kernel
theorem dL_shop_64 : decode cL_shop 64 = .ok (.aload_n 0, 1) := by decide +kernel
theorem dL_shop_65 : decode cL_shop 65 = .ok (.aload_n 3, 1) := by decide +kernel
theorem dL_shop_66 : decode cL_shop 66 = .ok (.iload 13, 2) := by decide +kernel
theorem dL_shop_68 : decode cL_shop 68 = .ok (.iaload, 1) := by decide +kernel
theorem dL_shop_69 : decode cL_shop 69 = .ok (.iconst 1, 1) := by decide +kernel
theorem dL_shop_70 : decode cL_shop 70 = .ok (.invokevirtual 47, 3) := by decide +kernel
theorem dL_shop_73 : decode cL_shop 73 = .ok (.aload_n 2, 1) := by decide +kernel
theorem dL_shop_74 : decode cL_shop 74 = .ok (.iload 13, 2) := by decide +kernel
theorem dL_shop_76 : decode cL_shop 76 = .ok (.invokestatic 28, 3) := by decide +kernel
theorem dL_shop_79 : decode cL_shop 79 = .ok (.if_icmp .ne 122, 3) := by decide +kernel
theorem dL_shop_82 : decode cL_shop 82 = .ok (.aload_n 0, 1) := by decide +kernel
theorem dL_shop_83 : decode cL_shop 83 = .ok (.aload_n 3, 1) := by decide +kernel
theorem dL_shop_84 : decode cL_shop 84 = .ok (.iload 13, 2) := by decide +kernel
theorem dL_shop_86 : decode cL_shop 86 = .ok (.iaload, 1) := by decide +kernel
theorem dL_shop_87 : decode cL_shop 87 = .ok (.iconst 2, 1) := by decide +kernel
theorem dL_shop_88 : decode cL_shop 88 = .ok (.invokevirtual 47, 3) := by decide +kernel
theorem dL_shop_91 : decode cL_shop 91 = .ok (.aload_n 2, 1) := by decide +kernel
theorem dL_shop_92 : decode cL_shop 92 = .ok (.iload 13, 2) := by decide +kernel
theorem dL_shop_94 : decode cL_shop 94 = .ok (.iaload, 1) := by decide +kernel
theorem dL_shop_95 : decode cL_shop 95 = .ok (.sipush 1000, 3) := by decide +kernel
theorem dL_shop_98 : decode cL_shop 98 = .ok (.idiv, 1) := by decide +kernel
theorem dL_shop_99 : decode cL_shop 99 = .ok (.if_icmp .ne 102, 3) := by decide +kernel
theorem dL_shop_102 : decode cL_shop 102 = .ok (.aload_n 0, 1) := by decide +kernel
theorem dL_shop_103 : decode cL_shop 103 = .ok (.aload_n 3, 1) := by decide +kernel
theorem dL_shop_104 : decode cL_shop 104 = .ok (.iload 13, 2) := by decide +kernel
theorem dL_shop_106 : decode cL_shop 106 = .ok (.iaload, 1) := by decide +kernel
theorem dL_shop_107 : decode cL_shop 107 = .ok (.iconst 3, 1) := by decide +kernel
theorem dL_shop_108 : decode cL_shop 108 = .ok (.invokevirtual 47, 3) := by decide +kernel
theorem dL_shop_111 : decode cL_shop 111 = .ok (.aload_n 1, 1) := by decide +kernel
theorem dL_shop_112 : decode cL_shop 112 = .ok (.iload 13, 2) := by decide +kernel
theorem dL_shop_114 : decode cL_shop 114 = .ok (.iaload, 1) := by decide +kernel
theorem dL_shop_115 : decode cL_shop 115 = .ok (.bipush 8, 2) := by decide +kernel
theorem dL_shop_117 : decode cL_shop 117 = .ok (.idiv, 1) := by decide +kernel
theorem dL_shop_118 : decode cL_shop 118 = .ok (.if_icmp .ne 83, 3) := by decide +kernel
theorem dL_shop_121 : decode cL_shop 121 = .ok (.aload_n 0, 1) := by decide +kernel
theorem dL_shop_122 : decode cL_shop 122 = .ok (.aload_n 3, 1) := by decide +kernel
theorem dL_shop_123 : decode cL_shop 123 = .ok (.iload 13, 2) := by decide +kernel
theorem dL_shop_125 : decode cL_shop 125 = .ok (.iaload, 1) := by decide +kernel
theorem dL_shop_126 : decode cL_shop 126 = .ok (.iconst 4, 1) := by decide +kernel
theorem dL_shop_127 : decode cL_shop 127 = .ok (.invokevirtual 47, 3) := by decide +kernel
theorem dL_shop_130 : decode cL_shop 130 = .ok (.aload_n 1, 1) := by decide +kernel
theorem dL_shop_131 : decode cL_shop 131 = .ok (.iload 13, 2) := by decide +kernel
theorem dL_shop_133 : decode cL_shop 133 = .ok (.iaload, 1) := by decide +kernel
theorem dL_shop_134 : decode cL_shop 134 = .ok (.bipush 8, 2) := by decide +kernel
theorem dL_shop_136 : decode cL_shop 136 = .ok (.irem, 1) := by decide +kernel
theorem dL_shop_137 : decode cL_shop 137 = .ok (.if_icmp .ne 64, 3) := by decide +kernel
theorem dL_shop_140 : decode cL_shop 140 = .ok (.aload_n 0, 1) := by decide +kernel
theorem dL_shop_141 : decode cL_shop 141 = .ok (.aload_n 3, 1) := by decide +kernel
theorem dL_shop_142 : decode cL_shop 142 = .ok (.iload 13, 2) := by decide +kernel
theorem dL_shop_144 : decode cL_shop 144 = .ok (.iaload, 1) := by decide +kernel
theorem dL_shop_145 : decode cL_shop 145 = .ok (.iconst 5, 1) := by decide +kernel
theorem dL_shop_146 : decode cL_shop 146 = .ok (.invokevirtual 47, 3) := by decide +kernel
theorem dL_shop_149 : decode cL_shop 149 = .ok (.aload_n 2, 1) := by decide +kernel
theorem dL_shop_150 : decode cL_shop 150 = .ok (.aload 10, 2) := by decide +kernel
theorem dL_shop_152 : decode cL_shop 152 = .ok (.iload 13, 2) := by decide +kernel
theorem dL_shop_154 : decode cL_shop 154 = .ok (.aload 10, 2) := by decide +kernel
theorem dL_shop_156 : decode cL_shop 156 = .ok (.iconst 5, 1) := by decide +kernel
theorem dL_shop_157 : decode cL_shop 157 = .ok (.iaload, 1) := by decide +kernel
theorem dL_shop_158 : decode cL_shop 158 = .ok (.invokestatic 43, 3) := by decide +kernel
theorem dL_shop_161 : decode cL_shop 161 = .ok (.if_icmp .ne 40, 3) := by decide +kernel
theorem dL_shop_164 : decode cL_shop 164 = .ok (.aload_n 0, 1) := by decide +kernel
theorem dL_shop_165 : decode cL_shop 165 = .ok (.aload_n 1, 1) := by decide +kernel
theorem dL_shop_166 : decode cL_shop 166 = .ok (.iload 13, 2) := by decide +kernel
theorem dL_shop_168 : decode cL_shop 168 = .ok (.iaload, 1) := by decide +kernel
theorem dL_shop_169 : decode cL_shop 169 = .ok (.bipush 8, 2) := by decide +kernel
theorem dL_shop_171 : decode cL_shop 171 = .ok (.idiv, 1) := by decide +kernel
theorem dL_shop_172 : decode cL_shop 172 = .ok (.aload_n 1, 1) := by decide +kernel
theorem dL_shop_173 : decode cL_shop 173 = .ok (.iload 13, 2) := by decide +kernel
theorem dL_shop_175 : decode cL_shop 175 = .ok (.iaload, 1) := by decide +kernel
theorem dL_shop_176 : decode cL_shop 176 = .ok (.bipush 8, 2) := by decide +kernel
theorem dL_shop_178 : decode cL_shop 178 = .ok (.irem, 1) := by decide +kernel
theorem dL_shop_179 : decode cL_shop 179 = .ok (.invokevirtual 52, 3) := by decide +kernel
theorem dL_shop_182 : decode cL_shop 182 = .ok (.aload_n 3, 1) := by decide +kernel
theorem dL_shop_183 : decode cL_shop 183 = .ok (.iload 13, 2) := by decide +kernel
theorem dL_shop_185 : decode cL_shop 185 = .ok (.iaload, 1) := by decide +kernel
theorem dL_shop_186 : decode cL_shop 186 = .ok (.if_icmp .ne 15, 3) := by decide +kernel
theorem dL_shop_189 : decode cL_shop 189 = .ok (.aload_n 0, 1) := by decide +kernel
theorem dL_shop_190 : decode cL_shop 190 = .ok (.aload_n 3, 1) := by decide +kernel
theorem dL_shop_191 : decode cL_shop 191 = .ok (.iload 13, 2) := by decide +kernel
theorem dL_shop_193 : decode cL_shop 193 = .ok (.iaload, 1) := by decide +kernel
theorem dL_shop_194 : decode cL_shop 194 = .ok (.invokevirtual 55, 3) := by decide +kernel
theorem dL_shop_197 : decode cL_shop 197 = .ok (.iconst 1, 1) := by decide +kernel
theorem dL_shop_198 : decode cL_shop 198 = .ok (.if_icmp .eq 5, 3) := by decide +kernel
theorem dL_shop_201 : decode cL_shop 201 = .ok (.iconst 0, 1) := by decide +kernel
theorem dL_shop_202 : decode cL_shop 202 = .ok (.ireturn, 1) := by decide +kernel
theorem dL_shop_203 : decode cL_shop 203 = .ok (.iinc 13 1, 3) := by decide +kernel
theorem dL_shop_206 : decode cL_shop 206 = .ok (.goto (-197), 3) := by decide +kernel
theorem dL_shop_209 : decode cL_shop 209 = .ok (.iconst 0, 1) := by decide +kernel
theorem dL_shop_210 : decode cL_shop 210 = .ok (.istore 13, 2) := by decide +kernel
theorem dL_shop_212 : decode cL_shop 212 = .ok (.iload 13, 2) := by decide +kernel
theorem dL_shop_214 : decode cL_shop 214 = .ok (.bipush 10, 2) := by decide +kernel
theorem dL_shop_216 : decode cL_shop 216 = .ok (.if_icmp .ge 133, 3) := by decide +kernel
theorem dL_shop_219 : decode cL_shop 219 = .ok (.iconst 0, 1) := by decide +kernel
theorem dL_shop_220 : decode cL_shop 220 = .ok (.istore 14, 2) := by decide +kernel
theorem dL_shop_222 : decode cL_shop 222 = .ok (.iconst 0, 1) := by decide +kernel
theorem dL_shop_223 : decode cL_shop 223 = .ok (.istore 15, 2) := by decide +kernel
theorem dL_shop_225 : decode cL_shop 225 = .ok (.iload 15, 2) := by decide +kernel
theorem dL_shop_227 : decode cL_shop 227 = .ok (.aload 10, 2) := by decide +kernel
theorem dL_shop_229 : decode cL_shop 229 = .ok (.bipush 7, 2) := by decide +kernel
theorem dL_shop_231 : decode cL_shop 231 = .ok (.iaload, 1) := by decide +kernel
theorem dL_shop_232 : decode cL_shop 232 = .ok (.if_icmp .ge 37, 3) := by decide +kernel
theorem dL_shop_235 : decode cL_shop 235 = .ok (.iload 14, 2) := by decide +kernel
theorem dL_shop_237 : decode cL_shop 237 = .ok (.aload_n 1, 1) := by decide +kernel
theorem dL_shop_238 : decode cL_shop 238 = .ok (.iload 15, 2) := by decide +kernel
theorem dL_shop_240 : decode cL_shop 240 = .ok (.iaload, 1) := by decide +kernel
theorem dL_shop_241 : decode cL_shop 241 = .ok (.ifCond .lt 18, 3) := by decide +kernel
theorem dL_shop_244 : decode cL_shop 244 = .ok (.aload_n 2, 1) := by decide +kernel
theorem dL_shop_245 : decode cL_shop 245 = .ok (.iload 15, 2) := by decide +kernel
theorem dL_shop_247 : decode cL_shop 247 = .ok (.invokestatic 36, 3) := by decide +kernel
theorem dL_shop_250 : decode cL_shop 250 = .ok (.iload 13, 2) := by decide +kernel
theorem dL_shop_252 : decode cL_shop 252 = .ok (.if_icmp .ne 7, 3) := by decide +kernel
theorem dL_shop_255 : decode cL_shop 255 = .ok (.iconst 1, 1) := by decide +kernel
theorem dL_shop_256 : decode cL_shop 256 = .ok (.goto 4, 3) := by decide +kernel
theorem dL_shop_259 : decode cL_shop 259 = .ok (.iconst 0, 1) := by decide +kernel
theorem dL_shop_260 : decode cL_shop 260 = .ok (.iadd, 1) := by decide +kernel
theorem dL_shop_261 : decode cL_shop 261 = .ok (.istore 14, 2) := by decide +kernel
theorem dL_shop_263 : decode cL_shop 263 = .ok (.iinc 15 1, 3) := by decide +kernel
theorem dL_shop_266 : decode cL_shop 266 = .ok (.goto (-41), 3) := by decide +kernel
theorem dL_shop_269 : decode cL_shop 269 = .ok (.aload_n 0, 1) := by decide +kernel
theorem dL_shop_270 : decode cL_shop 270 = .ok (.iload 13, 2) := by decide +kernel
theorem dL_shop_272 : decode cL_shop 272 = .ok (.iconst 0, 1) := by decide +kernel
theorem dL_shop_273 : decode cL_shop 273 = .ok (.invokevirtual 59, 3) := by decide +kernel
theorem dL_shop_276 : decode cL_shop 276 = .ok (.iload 14, 2) := by decide +kernel
theorem dL_shop_278 : decode cL_shop 278 = .ok (.if_icmp .ne 63, 3) := by decide +kernel
theorem dL_shop_281 : decode cL_shop 281 = .ok (.aload_n 0, 1) := by decide +kernel
theorem dL_shop_282 : decode cL_shop 282 = .ok (.iload 13, 2) := by decide +kernel
theorem dL_shop_284 : decode cL_shop 284 = .ok (.iconst 1, 1) := by decide +kernel
theorem dL_shop_285 : decode cL_shop 285 = .ok (.invokevirtual 59, 3) := by decide +kernel
theorem dL_shop_288 : decode cL_shop 288 = .ok (.aload 6, 2) := by decide +kernel
theorem dL_shop_290 : decode cL_shop 290 = .ok (.iload 13, 2) := by decide +kernel
theorem dL_shop_292 : decode cL_shop 292 = .ok (.iaload, 1) := by decide +kernel
theorem dL_shop_293 : decode cL_shop 293 = .ok (.if_icmp .ne 48, 3) := by decide +kernel
theorem dL_shop_296 : decode cL_shop 296 = .ok (.aload_n 0, 1) := by decide +kernel
theorem dL_shop_297 : decode cL_shop 297 = .ok (.iload 13, 2) := by decide +kernel
theorem dL_shop_299 : decode cL_shop 299 = .ok (.iconst 2, 1) := by decide +kernel
theorem dL_shop_300 : decode cL_shop 300 = .ok (.invokevirtual 59, 3) := by decide +kernel
theorem dL_shop_303 : decode cL_shop 303 = .ok (.aload 7, 2) := by decide +kernel
theorem dL_shop_305 : decode cL_shop 305 = .ok (.iload 13, 2) := by decide +kernel
theorem dL_shop_307 : decode cL_shop 307 = .ok (.iaload, 1) := by decide +kernel
theorem dL_shop_308 : decode cL_shop 308 = .ok (.if_icmp .ne 33, 3) := by decide +kernel
theorem dL_shop_311 : decode cL_shop 311 = .ok (.aload_n 0, 1) := by decide +kernel
theorem dL_shop_312 : decode cL_shop 312 = .ok (.iload 13, 2) := by decide +kernel
theorem dL_shop_314 : decode cL_shop 314 = .ok (.iconst 3, 1) := by decide +kernel
theorem dL_shop_315 : decode cL_shop 315 = .ok (.invokevirtual 59, 3) := by decide +kernel
theorem dL_shop_318 : decode cL_shop 318 = .ok (.aload 8, 2) := by decide +kernel
theorem dL_shop_320 : decode cL_shop 320 = .ok (.iload 13, 2) := by decide +kernel
theorem dL_shop_322 : decode cL_shop 322 = .ok (.iaload, 1) := by decide +kernel
theorem dL_shop_323 : decode cL_shop 323 = .ok (.if_icmp .ne 18, 3) := by decide +kernel
theorem dL_shop_326 : decode cL_shop 326 = .ok (.aload_n 0, 1) := by decide +kernel
theorem dL_shop_327 : decode cL_shop 327 = .ok (.iload 13, 2) := by decide +kernel
theorem dL_shop_329 : decode cL_shop 329 = .ok (.iconst 4, 1) := by decide +kernel
theorem dL_shop_330 : decode cL_shop 330 = .ok (.invokevirtual 59, 3) := by decide +kernel
theorem dL_shop_333 : decode cL_shop 333 = .ok (.aload 9, 2) := by decide +kernel
theorem dL_shop_335 : decode cL_shop 335 = .ok (.iload 13, 2) := by decide +kernel
theorem dL_shop_337 : decode cL_shop 337 = .ok (.iaload, 1) := by decide +kernel
theorem dL_shop_338 : decode cL_shop 338 = .ok (.if_icmp .eq 5, 3) := by decide +kernel
theorem dL_shop_341 : decode cL_shop 341 = .ok (.iconst 0, 1) := by decide +kernel
theorem dL_shop_342 : decode cL_shop 342 = .ok (.ireturn, 1) := by decide +kernel
theorem dL_shop_343 : decode cL_shop 343 = .ok (.iinc 13 1, 3) := by decide +kernel
theorem dL_shop_346 : decode cL_shop 346 = .ok (.goto (-134), 3) := by decide +kernel
theorem dL_shop_349 : decode cL_shop 349 = .ok (.iconst 0, 1) := by decide +kernel
theorem dL_shop_350 : decode cL_shop 350 = .ok (.istore 13, 2) := by decide +kernel
theorem dL_shop_352 : decode cL_shop 352 = .ok (.iload 13, 2) := by decide +kernel
theorem dL_shop_354 : decode cL_shop 354 = .ok (.bipush 6, 2) := by decide +kernel
theorem dL_shop_356 : decode cL_shop 356 = .ok (.if_icmp .ge 177, 3) := by decide +kernel
theorem dL_shop_359 : decode cL_shop 359 = .ok (.iconst 0, 1) := by decide +kernel
theorem dL_shop_360 : decode cL_shop 360 = .ok (.istore 14, 2) := by decide +kernel
theorem dL_shop_362 : decode cL_shop 362 = .ok (.iconst 0, 1) := by decide +kernel
theorem dL_shop_363 : decode cL_shop 363 = .ok (.istore 15, 2) := by decide +kernel
theorem dL_shop_365 : decode cL_shop 365 = .ok (.bipush 8, 2) := by decide +kernel
theorem dL_shop_367 : decode cL_shop 367 = .ok (.iload 13, 2) := by decide +kernel
theorem dL_shop_369 : decode cL_shop 369 = .ok (.imul, 1) := by decide +kernel
theorem dL_shop_370 : decode cL_shop 370 = .ok (.istore 16, 2) := by decide +kernel
theorem dL_shop_372 : decode cL_shop 372 = .ok (.iload 16, 2) := by decide +kernel
theorem dL_shop_374 : decode cL_shop 374 = .ok (.bipush 8, 2) := by decide +kernel
theorem dL_shop_376 : decode cL_shop 376 = .ok (.iload 13, 2) := by decide +kernel
theorem dL_shop_378 : decode cL_shop 378 = .ok (.imul, 1) := by decide +kernel
theorem dL_shop_379 : decode cL_shop 379 = .ok (.bipush 8, 2) := by decide +kernel
theorem dL_shop_381 : decode cL_shop 381 = .ok (.iadd, 1) := by decide +kernel
theorem dL_shop_382 : decode cL_shop 382 = .ok (.if_icmp .ge 105, 3) := by decide +kernel
theorem dL_shop_385 : decode cL_shop 385 = .ok (.aload_n 1, 1) := by decide +kernel
theorem dL_shop_386 : decode cL_shop 386 = .ok (.aload 10, 2) := by decide +kernel
theorem dL_shop_388 : decode cL_shop 388 = .ok (.iload 16, 2) := by decide +kernel
theorem dL_shop_390 : decode cL_shop 390 = .ok (.invokestatic 24, 3) := by decide +kernel
theorem dL_shop_393 : decode cL_shop 393 = .ok (.ifCond .ge 7, 3) := by decide +kernel
theorem dL_shop_396 : decode cL_shop 396 = .ok (.iconst 1, 1) := by decide +kernel
theorem dL_shop_397 : decode cL_shop 397 = .ok (.goto 4, 3) := by decide +kernel
theorem dL_shop_400 : decode cL_shop 400 = .ok (.iconst 0, 1) := by decide +kernel
theorem dL_shop_401 : decode cL_shop 401 = .ok (.istore 17, 2) := by decide +kernel
theorem dL_shop_403 : decode cL_shop 403 = .ok (.iload 14, 2) := by decide +kernel
theorem dL_shop_405 : decode cL_shop 405 = .ok (.iload 17, 2) := by decide +kernel
theorem dL_shop_407 : decode cL_shop 407 = .ok (.ifCond .eq 7, 3) := by decide +kernel
theorem dL_shop_410 : decode cL_shop 410 = .ok (.iconst 0, 1) := by decide +kernel
theorem dL_shop_411 : decode cL_shop 411 = .ok (.goto 4, 3) := by decide +kernel
theorem dL_shop_414 : decode cL_shop 414 = .ok (.iconst 1, 1) := by decide +kernel
theorem dL_shop_415 : decode cL_shop 415 = .ok (.iadd, 1) := by decide +kernel
theorem dL_shop_416 : decode cL_shop 416 = .ok (.istore 14, 2) := by decide +kernel
theorem dL_shop_418 : decode cL_shop 418 = .ok (.iload 15, 2) := by decide +kernel
theorem dL_shop_420 : decode cL_shop 420 = .ok (.iload 17, 2) := by decide +kernel
theorem dL_shop_422 : decode cL_shop 422 = .ok (.ifCond .eq 32, 3) := by decide +kernel
theorem dL_shop_425 : decode cL_shop 425 = .ok (.aload 4, 2) := by decide +kernel
theorem dL_shop_427 : decode cL_shop 427 = .ok (.aload 5, 2) := by decide +kernel
theorem dL_shop_429 : decode cL_shop 429 = .ok (.aload 10, 2) := by decide +kernel
theorem dL_shop_431 : decode cL_shop 431 = .ok (.aload 10, 2) := by decide +kernel
theorem dL_shop_433 : decode cL_shop 433 = .ok (.iconst 5, 1) := by decide +kernel
theorem dL_shop_434 : decode cL_shop 434 = .ok (.iaload, 1) := by decide +kernel
theorem dL_shop_435 : decode cL_shop 435 = .ok (.iload 16, 2) := by decide +kernel
theorem dL_shop_437 : decode cL_shop 437 = .ok (.invokestatic 16, 3) := by decide +kernel
theorem dL_shop_440 : decode cL_shop 440 = .ok (.invokestatic 20, 3) := by decide +kernel
theorem dL_shop_443 : decode cL_shop 443 = .ok (.aload 10, 2) := by decide +kernel
theorem dL_shop_445 : decode cL_shop 445 = .ok (.iconst 5, 1) := by decide +kernel
theorem dL_shop_446 : decode cL_shop 446 = .ok (.iaload, 1) := by decide +kernel
theorem dL_shop_447 : decode cL_shop 447 = .ok (.if_icmp .le 7, 3) := by decide +kernel
theorem dL_shop_450 : decode cL_shop 450 = .ok (.iconst 1, 1) := by decide +kernel
theorem dL_shop_451 : decode cL_shop 451 = .ok (.goto 4, 3) := by decide +kernel
theorem dL_shop_454 : decode cL_shop 454 = .ok (.iconst 0, 1) := by decide +kernel
theorem dL_shop_455 : decode cL_shop 455 = .ok (.iadd, 1) := by decide +kernel
theorem dL_shop_456 : decode cL_shop 456 = .ok (.istore 15, 2) := by decide +kernel
theorem dL_shop_458 : decode cL_shop 458 = .ok (.iload 17, 2) := by decide +kernel
theorem dL_shop_460 : decode cL_shop 460 = .ok (.ifCond .eq 21, 3) := by decide +kernel
theorem dL_shop_463 : decode cL_shop 463 = .ok (.aload_n 0, 1) := by decide +kernel
theorem dL_shop_464 : decode cL_shop 464 = .ok (.iload 13, 2) := by decide +kernel
theorem dL_shop_466 : decode cL_shop 466 = .ok (.iload 16, 2) := by decide +kernel
theorem dL_shop_468 : decode cL_shop 468 = .ok (.bipush 8, 2) := by decide +kernel
theorem dL_shop_470 : decode cL_shop 470 = .ok (.irem, 1) := by decide +kernel
theorem dL_shop_471 : decode cL_shop 471 = .ok (.invokevirtual 52, 3) := by decide +kernel
theorem dL_shop_474 : decode cL_shop 474 = .ok (.bipush (-6), 2) := by decide +kernel
theorem dL_shop_476 : decode cL_shop 476 = .ok (.if_icmp .eq 5, 3) := by decide +kernel
theorem dL_shop_479 : decode cL_shop 479 = .ok (.iconst 0, 1) := by decide +kernel
theorem dL_shop_480 : decode cL_shop 480 = .ok (.ireturn, 1) := by decide +kernel
theorem dL_shop_481 : decode cL_shop 481 = .ok (.iinc 16 1, 3) := by decide +kernel
theorem dL_shop_484 : decode cL_shop 484 = .ok (.goto (-112), 3) := by decide +kernel
theorem dL_shop_487 : decode cL_shop 487 = .ok (.aload_n 0, 1) := by decide +kernel
theorem dL_shop_488 : decode cL_shop 488 = .ok (.iload 13, 2) := by decide +kernel
theorem dL_shop_490 : decode cL_shop 490 = .ok (.iconst 0, 1) := by decide +kernel
theorem dL_shop_491 : decode cL_shop 491 = .ok (.invokevirtual 61, 3) := by decide +kernel
theorem dL_shop_494 : decode cL_shop 494 = .ok (.iload 13, 2) := by decide +kernel
theorem dL_shop_496 : decode cL_shop 496 = .ok (.iconst 2, 1) := by decide +kernel
theorem dL_shop_497 : decode cL_shop 497 = .ok (.idiv, 1) := by decide +kernel
theorem dL_shop_498 : decode cL_shop 498 = .ok (.if_icmp .ne 27, 3) := by decide +kernel
theorem dL_shop_501 : decode cL_shop 501 = .ok (.aload_n 0, 1) := by decide +kernel
theorem dL_shop_502 : decode cL_shop 502 = .ok (.iload 13, 2) := by decide +kernel
theorem dL_shop_504 : decode cL_shop 504 = .ok (.iconst 1, 1) := by decide +kernel
theorem dL_shop_505 : decode cL_shop 505 = .ok (.invokevirtual 61, 3) := by decide +kernel
theorem dL_shop_508 : decode cL_shop 508 = .ok (.iload 14, 2) := by decide +kernel
theorem dL_shop_510 : decode cL_shop 510 = .ok (.if_icmp .ne 15, 3) := by decide +kernel
theorem dL_shop_513 : decode cL_shop 513 = .ok (.aload_n 0, 1) := by decide +kernel
theorem dL_shop_514 : decode cL_shop 514 = .ok (.iload 13, 2) := by decide +kernel
theorem dL_shop_516 : decode cL_shop 516 = .ok (.iconst 2, 1) := by decide +kernel
theorem dL_shop_517 : decode cL_shop 517 = .ok (.invokevirtual 61, 3) := by decide +kernel
theorem dL_shop_520 : decode cL_shop 520 = .ok (.iload 15, 2) := by decide +kernel
theorem dL_shop_522 : decode cL_shop 522 = .ok (.if_icmp .eq 5, 3) := by decide +kernel
theorem dL_shop_525 : decode cL_shop 525 = .ok (.iconst 0, 1) := by decide +kernel
theorem dL_shop_526 : decode cL_shop 526 = .ok (.ireturn, 1) := by decide +kernel
theorem dL_shop_527 : decode cL_shop 527 = .ok (.iinc 13 1, 3) := by decide +kernel
theorem dL_shop_530 : decode cL_shop 530 = .ok (.goto (-178), 3) := by decide +kernel
theorem dL_shop_533 : decode cL_shop 533 = .ok (.iconst 0, 1) := by decide +kernel
theorem dL_shop_534 : decode cL_shop 534 = .ok (.istore 13, 2) := by decide +kernel
theorem dL_shop_536 : decode cL_shop 536 = .ok (.iload 13, 2) := by decide +kernel
theorem dL_shop_538 : decode cL_shop 538 = .ok (.iconst 3, 1) := by decide +kernel
theorem dL_shop_539 : decode cL_shop 539 = .ok (.if_icmp .ge 56, 3) := by decide +kernel
theorem dL_shop_542 : decode cL_shop 542 = .ok (.aload_n 1, 1) := by decide +kernel
theorem dL_shop_543 : decode cL_shop 543 = .ok (.aload 4, 2) := by decide +kernel
theorem dL_shop_545 : decode cL_shop 545 = .ok (.aload 5, 2) := by decide +kernel
theorem dL_shop_547 : decode cL_shop 547 = .ok (.aload 10, 2) := by decide +kernel
theorem dL_shop_549 : decode cL_shop 549 = .ok (.iconst 2, 1) := by decide +kernel
theorem dL_shop_550 : decode cL_shop 550 = .ok (.iload 13, 2) := by decide +kernel
theorem dL_shop_552 : decode cL_shop 552 = .ok (.imul, 1) := by decide +kernel
theorem dL_shop_553 : decode cL_shop 553 = .ok (.iconst 5, 1) := by decide +kernel
theorem dL_shop_554 : decode cL_shop 554 = .ok (.invokestatic 64, 3) := by decide +kernel
theorem dL_shop_557 : decode cL_shop 557 = .ok (.istore 14, 2) := by decide +kernel
theorem dL_shop_559 : decode cL_shop 559 = .ok (.aload_n 0, 1) := by decide +kernel
theorem dL_shop_560 : decode cL_shop 560 = .ok (.iload 13, 2) := by decide +kernel
theorem dL_shop_562 : decode cL_shop 562 = .ok (.invokevirtual 67, 3) := by decide +kernel
theorem dL_shop_565 : decode cL_shop 565 = .ok (.iload 14, 2) := by decide +kernel
theorem dL_shop_567 : decode cL_shop 567 = .ok (.ifCond .ge 8, 3) := by decide +kernel
theorem dL_shop_570 : decode cL_shop 570 = .ok (.bipush (-6), 2) := by decide +kernel
theorem dL_shop_572 : decode cL_shop 572 = .ok (.goto 12, 3) := by decide +kernel
theorem dL_shop_575 : decode cL_shop 575 = .ok (.aload 10, 2) := by decide +kernel
theorem dL_shop_577 : decode cL_shop 577 = .ok (.iconst 5, 1) := by decide +kernel
theorem dL_shop_578 : decode cL_shop 578 = .ok (.iaload, 1) := by decide +kernel
theorem dL_shop_579 : decode cL_shop 579 = .ok (.iload 14, 2) := by decide +kernel
theorem dL_shop_581 : decode cL_shop 581 = .ok (.invokestatic 16, 3) := by decide +kernel
theorem dL_shop_584 : decode cL_shop 584 = .ok (.if_icmp .eq 5, 3) := by decide +kernel
theorem dL_shop_587 : decode cL_shop 587 = .ok (.iconst 0, 1) := by decide +kernel
theorem dL_shop_588 : decode cL_shop 588 = .ok (.ireturn, 1) := by decide +kernel
theorem dL_shop_589 : decode cL_shop 589 = .ok (.iinc 13 1, 3) := by decide +kernel
theorem dL_shop_592 : decode cL_shop 592 = .ok (.goto (-56), 3) := by decide +kernel
theorem dL_shop_595 : decode cL_shop 595 = .ok (.aload_n 0, 1) := by decide +kernel
theorem dL_shop_596 : decode cL_shop 596 = .ok (.invokevirtual 70, 3) := by decide +kernel
