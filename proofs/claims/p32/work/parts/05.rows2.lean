set_option maxRecDepth 20000 in
theorem ggX3_parcel_X1_feeAfter : GoodIn wsX3_parcel wsX1_feeAfter := goodIn_r _ [29, 30, 31, 32, 33, 34, 35, 36, 37, 46, 47, 48, 49, 50, 51, 52, 53, 54, 55, 56, 57, 58, 59] (by decide +kernel) (by decide +kernel)
set_option maxRecDepth 20000 in
theorem gX3_parcel_X1_feeAfter : GoodIn wsX3_parcel (wsV RX3 100 RX1 yX1_feeAfter wsX1_feeAfter) := goodIn_app (goodIn_of _ (by decide +kernel)) ggX3_parcel_X1_feeAfter
theorem dX3_parcel_0 : decode cX3_parcel 0 = .ok (.aload_n 0, 1) := by decide +kernel
theorem dX3_parcel_1 : decode cX3_parcel 1 = .ok (.getfield 12, 3) := by decide +kernel
theorem dX3_parcel_4 : decode cX3_parcel 4 = .ok (.iload_n 1, 1) := by decide +kernel
theorem dX3_parcel_5 : decode cX3_parcel 5 = .ok (.invokevirtual 88, 3) := by decide +kernel
theorem dX3_parcel_8 : decode cX3_parcel 8 = .ok (.istore_n 3, 1) := by decide +kernel
theorem dX3_parcel_9 : decode cX3_parcel 9 = .ok (.iload_n 3, 1) := by decide +kernel
theorem dX3_parcel_10 : decode cX3_parcel 10 = .ok (.iconst (-1), 1) := by decide +kernel
theorem dX3_parcel_11 : decode cX3_parcel 11 = .ok (.if_icmp .ne 5, 3) := by decide +kernel
theorem dX3_parcel_14 : decode cX3_parcel 14 = .ok (.iconst (-1), 1) := by decide +kernel
theorem dX3_parcel_15 : decode cX3_parcel 15 = .ok (.ireturn, 1) := by decide +kernel
theorem dX3_parcel_16 : decode cX3_parcel 16 = .ok (.iload_n 2, 1) := by decide +kernel
theorem dX3_parcel_17 : decode cX3_parcel 17 = .ok (.tableswitch 89 0 5 #[39, 49, 59, 69, 74, 79], 39) := by decide +kernel
theorem dX3_parcel_56 : decode cX3_parcel 56 = .ok (.aload_n 0, 1) := by decide +kernel
theorem dX3_parcel_57 : decode cX3_parcel 57 = .ok (.getfield 12, 3) := by decide +kernel
theorem dX3_parcel_60 : decode cX3_parcel 60 = .ok (.getfield 91, 3) := by decide +kernel
theorem dX3_parcel_63 : decode cX3_parcel 63 = .ok (.iload_n 3, 1) := by decide +kernel
theorem dX3_parcel_64 : decode cX3_parcel 64 = .ok (.iaload, 1) := by decide +kernel
theorem dX3_parcel_65 : decode cX3_parcel 65 = .ok (.ireturn, 1) := by decide +kernel
theorem dX3_parcel_66 : decode cX3_parcel 66 = .ok (.aload_n 0, 1) := by decide +kernel
theorem dX3_parcel_67 : decode cX3_parcel 67 = .ok (.getfield 12, 3) := by decide +kernel
theorem dX3_parcel_70 : decode cX3_parcel 70 = .ok (.getfield 94, 3) := by decide +kernel
theorem dX3_parcel_73 : decode cX3_parcel 73 = .ok (.iload_n 3, 1) := by decide +kernel
theorem dX3_parcel_74 : decode cX3_parcel 74 = .ok (.iaload, 1) := by decide +kernel
theorem dX3_parcel_75 : decode cX3_parcel 75 = .ok (.ireturn, 1) := by decide +kernel
theorem dX3_parcel_76 : decode cX3_parcel 76 = .ok (.aload_n 0, 1) := by decide +kernel
theorem dX3_parcel_77 : decode cX3_parcel 77 = .ok (.getfield 12, 3) := by decide +kernel
theorem dX3_parcel_80 : decode cX3_parcel 80 = .ok (.getfield 97, 3) := by decide +kernel
theorem dX3_parcel_83 : decode cX3_parcel 83 = .ok (.iload_n 3, 1) := by decide +kernel
theorem dX3_parcel_84 : decode cX3_parcel 84 = .ok (.iaload, 1) := by decide +kernel
theorem dX3_parcel_85 : decode cX3_parcel 85 = .ok (.ireturn, 1) := by decide +kernel
theorem dX3_parcel_86 : decode cX3_parcel 86 = .ok (.iload_n 3, 1) := by decide +kernel
theorem dX3_parcel_87 : decode cX3_parcel 87 = .ok (.bipush 8, 2) := by decide +kernel
theorem dX3_parcel_89 : decode cX3_parcel 89 = .ok (.idiv, 1) := by decide +kernel
theorem dX3_parcel_90 : decode cX3_parcel 90 = .ok (.ireturn, 1) := by decide +kernel
theorem dX3_parcel_91 : decode cX3_parcel 91 = .ok (.iload_n 3, 1) := by decide +kernel
theorem dX3_parcel_92 : decode cX3_parcel 92 = .ok (.bipush 8, 2) := by decide +kernel
theorem dX3_parcel_94 : decode cX3_parcel 94 = .ok (.irem, 1) := by decide +kernel
theorem dX3_parcel_95 : decode cX3_parcel 95 = .ok (.ireturn, 1) := by decide +kernel
theorem dX3_parcel_96 : decode cX3_parcel 96 = .ok (.aload_n 0, 1) := by decide +kernel
theorem dX3_parcel_97 : decode cX3_parcel 97 = .ok (.getfield 12, 3) := by decide +kernel
theorem dX3_parcel_100 : decode cX3_parcel 100 = .ok (.iload_n 3, 1) := by decide +kernel
theorem dX3_parcel_101 : decode cX3_parcel 101 = .ok (.iconst 0, 1) := by decide +kernel
theorem dX3_parcel_102 : decode cX3_parcel 102 = .ok (.invokevirtual 100, 3) := by decide +kernel
theorem dX3_parcel_105 : decode cX3_parcel 105 = .ok (.ireturn, 1) := by decide +kernel
theorem dX3_parcel_106 : decode cX3_parcel 106 = .ok (.bipush (-2), 2) := by decide +kernel
theorem dX3_parcel_108 : decode cX3_parcel 108 = .ok (.ireturn, 1) := by decide +kernel
set_option maxRecDepth 20000 in
theorem ggX3_codeAt_X3_isPlace : GoodIn wsX3_codeAt wsX3_isPlace := goodIn_r _ [5, 6, 7, 4, 8] (by decide +kernel) (by decide +kernel)
set_option maxRecDepth 20000 in
theorem gX3_codeAt_X3_isPlace : GoodIn wsX3_codeAt (va_wsS RX3 103 yX3_isPlace wsX3_isPlace) := goodIn_app (goodIn_of _ (by decide +kernel)) ggX3_codeAt_X3_isPlace
set_option maxRecDepth 20000 in
theorem ggX3_codeAt_X1_isFree : GoodIn wsX3_codeAt wsX1_isFree := goodIn_r _ [13, 14, 32, 33, 34, 35, 36, 37, 38, 39, 40, 41, 42, 43, 44, 45] (by decide +kernel) (by decide +kernel)
set_option maxRecDepth 20000 in
theorem gX3_codeAt_X1_isFree : GoodIn wsX3_codeAt (wsV RX3 107 RX1 yX1_isFree wsX1_isFree) := goodIn_app (goodIn_of _ (by decide +kernel)) ggX3_codeAt_X1_isFree
set_option maxRecDepth 20000 in
theorem ggX3_codeAt_X1_codeOn : GoodIn wsX3_codeAt wsX1_codeOn := goodIn_r _ [18, 14, 19, 4, 20, 21, 22, 23, 32, 33, 34, 35, 36, 37, 38, 39, 40, 41, 42, 43, 44, 45] (by decide +kernel) (by decide +kernel)
set_option maxRecDepth 20000 in
theorem gX3_codeAt_X1_codeOn : GoodIn wsX3_codeAt (wsV RX3 111 RX1 yX1_codeOn wsX1_codeOn) := goodIn_app (goodIn_of _ (by decide +kernel)) ggX3_codeAt_X1_codeOn
theorem dX3_codeAt_0 : decode cX3_codeAt 0 = .ok (.iload_n 1, 1) := by decide +kernel
theorem dX3_codeAt_1 : decode cX3_codeAt 1 = .ok (.iload_n 2, 1) := by decide +kernel
theorem dX3_codeAt_2 : decode cX3_codeAt 2 = .ok (.invokestatic 103, 3) := by decide +kernel
theorem dX3_codeAt_5 : decode cX3_codeAt 5 = .ok (.ifCond .ne 5, 3) := by decide +kernel
theorem dX3_codeAt_8 : decode cX3_codeAt 8 = .ok (.iconst (-1), 1) := by decide +kernel
theorem dX3_codeAt_9 : decode cX3_codeAt 9 = .ok (.ireturn, 1) := by decide +kernel
theorem dX3_codeAt_10 : decode cX3_codeAt 10 = .ok (.iload_n 1, 1) := by decide +kernel
theorem dX3_codeAt_11 : decode cX3_codeAt 11 = .ok (.bipush 8, 2) := by decide +kernel
theorem dX3_codeAt_13 : decode cX3_codeAt 13 = .ok (.imul, 1) := by decide +kernel
theorem dX3_codeAt_14 : decode cX3_codeAt 14 = .ok (.iload_n 2, 1) := by decide +kernel
theorem dX3_codeAt_15 : decode cX3_codeAt 15 = .ok (.iadd, 1) := by decide +kernel
theorem dX3_codeAt_16 : decode cX3_codeAt 16 = .ok (.istore_n 3, 1) := by decide +kernel
theorem dX3_codeAt_17 : decode cX3_codeAt 17 = .ok (.aload_n 0, 1) := by decide +kernel
theorem dX3_codeAt_18 : decode cX3_codeAt 18 = .ok (.getfield 12, 3) := by decide +kernel
theorem dX3_codeAt_21 : decode cX3_codeAt 21 = .ok (.iload_n 3, 1) := by decide +kernel
theorem dX3_codeAt_22 : decode cX3_codeAt 22 = .ok (.invokevirtual 107, 3) := by decide +kernel
theorem dX3_codeAt_25 : decode cX3_codeAt 25 = .ok (.ifCond .eq 8, 3) := by decide +kernel
theorem dX3_codeAt_28 : decode cX3_codeAt 28 = .ok (.bipush (-6), 2) := by decide +kernel
theorem dX3_codeAt_30 : decode cX3_codeAt 30 = .ok (.goto 11, 3) := by decide +kernel
theorem dX3_codeAt_33 : decode cX3_codeAt 33 = .ok (.aload_n 0, 1) := by decide +kernel
theorem dX3_codeAt_34 : decode cX3_codeAt 34 = .ok (.getfield 12, 3) := by decide +kernel
theorem dX3_codeAt_37 : decode cX3_codeAt 37 = .ok (.iload_n 3, 1) := by decide +kernel
theorem dX3_codeAt_38 : decode cX3_codeAt 38 = .ok (.invokevirtual 111, 3) := by decide +kernel
theorem dX3_codeAt_41 : decode cX3_codeAt 41 = .ok (.ireturn, 1) := by decide +kernel
set_option maxRecDepth 20000 in
theorem ggX3_shelf_X3_isWithin : GoodIn wsX3_shelf wsX3_isWithin := goodIn_r _ [5] (by decide +kernel) (by decide +kernel)
set_option maxRecDepth 20000 in
theorem gX3_shelf_X3_isWithin : GoodIn wsX3_shelf (va_wsS RX3 59 yX3_isWithin wsX3_isWithin) := goodIn_app (goodIn_of _ (by decide +kernel)) ggX3_shelf_X3_isWithin
set_option maxRecDepth 20000 in
theorem ggX3_shelf_X3_sizeOfShelf : GoodIn wsX3_shelf wsX3_sizeOfShelf := goodIn_r _ [8] (by decide +kernel) (by decide +kernel)
set_option maxRecDepth 20000 in
theorem gX3_shelf_X3_sizeOfShelf : GoodIn wsX3_shelf (va_wsS RX3 114 yX3_sizeOfShelf wsX3_sizeOfShelf) := goodIn_app (goodIn_of _ (by decide +kernel)) ggX3_shelf_X3_sizeOfShelf
set_option maxRecDepth 20000 in
theorem ggX3_shelf_X1_parcelsOnShelf : GoodIn wsX3_shelf wsX1_parcelsOnShelf := goodIn_r _ [13, 14, 15, 16, 12, 17, 18, 46, 47, 48, 49, 50, 51, 52, 53, 54, 55, 56, 57, 58, 59] (by decide +kernel) (by decide +kernel)
set_option maxRecDepth 20000 in
theorem gX3_shelf_X1_parcelsOnShelf : GoodIn wsX3_shelf (wsV RX3 117 RX1 yX1_parcelsOnShelf wsX1_parcelsOnShelf) := goodIn_app (goodIn_of _ (by decide +kernel)) ggX3_shelf_X1_parcelsOnShelf
set_option maxRecDepth 20000 in
theorem ggX3_shelf_X1_restingOnShelf : GoodIn wsX3_shelf wsX1_restingOnShelf := goodIn_r _ [22, 14, 15, 16, 12, 17, 18, 23, 24, 25, 26, 27, 28, 4, 29, 30, 31, 32, 33, 34, 35, 36, 37, 46, 47, 48, 49, 50, 51, 52, 53, 54, 55, 56, 57, 58, 59] (by decide +kernel) (by decide +kernel)
set_option maxRecDepth 20000 in
theorem gX3_shelf_X1_restingOnShelf : GoodIn wsX3_shelf (wsV RX3 120 RX1 yX1_restingOnShelf wsX1_restingOnShelf) := goodIn_app (goodIn_of _ (by decide +kernel)) ggX3_shelf_X1_restingOnShelf
theorem dX3_shelf_0 : decode cX3_shelf 0 = .ok (.iload_n 1, 1) := by decide +kernel
theorem dX3_shelf_1 : decode cX3_shelf 1 = .ok (.iconst 0, 1) := by decide +kernel
theorem dX3_shelf_2 : decode cX3_shelf 2 = .ok (.iconst 5, 1) := by decide +kernel
theorem dX3_shelf_3 : decode cX3_shelf 3 = .ok (.invokestatic 59, 3) := by decide +kernel
theorem dX3_shelf_6 : decode cX3_shelf 6 = .ok (.ifCond .ne 5, 3) := by decide +kernel
theorem dX3_shelf_9 : decode cX3_shelf 9 = .ok (.iconst (-1), 1) := by decide +kernel
theorem dX3_shelf_10 : decode cX3_shelf 10 = .ok (.ireturn, 1) := by decide +kernel
theorem dX3_shelf_11 : decode cX3_shelf 11 = .ok (.iload_n 2, 1) := by decide +kernel
theorem dX3_shelf_12 : decode cX3_shelf 12 = .ok (.tableswitch 51 0 2 #[28, 33, 42], 28) := by decide +kernel
theorem dX3_shelf_40 : decode cX3_shelf 40 = .ok (.iload_n 1, 1) := by decide +kernel
theorem dX3_shelf_41 : decode cX3_shelf 41 = .ok (.invokestatic 114, 3) := by decide +kernel
theorem dX3_shelf_44 : decode cX3_shelf 44 = .ok (.ireturn, 1) := by decide +kernel
theorem dX3_shelf_45 : decode cX3_shelf 45 = .ok (.aload_n 0, 1) := by decide +kernel
theorem dX3_shelf_46 : decode cX3_shelf 46 = .ok (.getfield 12, 3) := by decide +kernel
theorem dX3_shelf_49 : decode cX3_shelf 49 = .ok (.iload_n 1, 1) := by decide +kernel
theorem dX3_shelf_50 : decode cX3_shelf 50 = .ok (.invokevirtual 117, 3) := by decide +kernel
theorem dX3_shelf_53 : decode cX3_shelf 53 = .ok (.ireturn, 1) := by decide +kernel
theorem dX3_shelf_54 : decode cX3_shelf 54 = .ok (.aload_n 0, 1) := by decide +kernel
theorem dX3_shelf_55 : decode cX3_shelf 55 = .ok (.getfield 12, 3) := by decide +kernel
theorem dX3_shelf_58 : decode cX3_shelf 58 = .ok (.iload_n 1, 1) := by decide +kernel
theorem dX3_shelf_59 : decode cX3_shelf 59 = .ok (.invokevirtual 120, 3) := by decide +kernel
theorem dX3_shelf_62 : decode cX3_shelf 62 = .ok (.ireturn, 1) := by decide +kernel
theorem dX3_shelf_63 : decode cX3_shelf 63 = .ok (.bipush (-2), 2) := by decide +kernel
theorem dX3_shelf_65 : decode cX3_shelf 65 = .ok (.ireturn, 1) := by decide +kernel
set_option maxRecDepth 20000 in
theorem ggX3_sender_X3_isWithin : GoodIn wsX3_sender wsX3_isWithin := goodIn_r _ [9] (by decide +kernel) (by decide +kernel)
set_option maxRecDepth 20000 in
theorem gX3_sender_X3_isWithin : GoodIn wsX3_sender (va_wsS RX3 59 yX3_isWithin wsX3_isWithin) := goodIn_app (goodIn_of _ (by decide +kernel)) ggX3_sender_X3_isWithin
set_option maxRecDepth 20000 in
theorem ggX3_sender_X1_parcelsOfSender : GoodIn wsX3_sender wsX1_parcelsOfSender := goodIn_r _ [14, 15, 16, 17, 18, 13, 19, 20, 29, 30, 31, 32, 33, 34, 35, 36, 37, 38, 39, 40, 41, 42] (by decide +kernel) (by decide +kernel)
set_option maxRecDepth 20000 in
theorem gX3_sender_X1_parcelsOfSender : GoodIn wsX3_sender (wsV RX3 123 RX1 yX1_parcelsOfSender wsX1_parcelsOfSender) := goodIn_app (goodIn_of _ (by decide +kernel)) ggX3_sender_X1_parcelsOfSender
theorem dX3_sender_0 : decode cX3_sender 0 = .ok (.iload_n 1, 1) := by decide +kernel
theorem dX3_sender_1 : decode cX3_sender 1 = .ok (.iconst 0, 1) := by decide +kernel
theorem dX3_sender_2 : decode cX3_sender 2 = .ok (.bipush 9, 2) := by decide +kernel
theorem dX3_sender_4 : decode cX3_sender 4 = .ok (.invokestatic 59, 3) := by decide +kernel
theorem dX3_sender_7 : decode cX3_sender 7 = .ok (.ifCond .ne 5, 3) := by decide +kernel
theorem dX3_sender_10 : decode cX3_sender 10 = .ok (.iconst (-1), 1) := by decide +kernel
theorem dX3_sender_11 : decode cX3_sender 11 = .ok (.ireturn, 1) := by decide +kernel
theorem dX3_sender_12 : decode cX3_sender 12 = .ok (.iload_n 2, 1) := by decide +kernel
theorem dX3_sender_13 : decode cX3_sender 13 = .ok (.tableswitch 84 0 4 #[35, 44, 54, 64, 74], 35) := by decide +kernel
theorem dX3_sender_48 : decode cX3_sender 48 = .ok (.aload_n 0, 1) := by decide +kernel
theorem dX3_sender_49 : decode cX3_sender 49 = .ok (.getfield 12, 3) := by decide +kernel
theorem dX3_sender_52 : decode cX3_sender 52 = .ok (.iload_n 1, 1) := by decide +kernel
theorem dX3_sender_53 : decode cX3_sender 53 = .ok (.invokevirtual 123, 3) := by decide +kernel
theorem dX3_sender_56 : decode cX3_sender 56 = .ok (.ireturn, 1) := by decide +kernel
theorem dX3_sender_57 : decode cX3_sender 57 = .ok (.aload_n 0, 1) := by decide +kernel
theorem dX3_sender_58 : decode cX3_sender 58 = .ok (.getfield 12, 3) := by decide +kernel
theorem dX3_sender_61 : decode cX3_sender 61 = .ok (.getfield 126, 3) := by decide +kernel
theorem dX3_sender_64 : decode cX3_sender 64 = .ok (.iload_n 1, 1) := by decide +kernel
theorem dX3_sender_65 : decode cX3_sender 65 = .ok (.iaload, 1) := by decide +kernel
theorem dX3_sender_66 : decode cX3_sender 66 = .ok (.ireturn, 1) := by decide +kernel
theorem dX3_sender_67 : decode cX3_sender 67 = .ok (.aload_n 0, 1) := by decide +kernel
theorem dX3_sender_68 : decode cX3_sender 68 = .ok (.getfield 12, 3) := by decide +kernel
theorem dX3_sender_71 : decode cX3_sender 71 = .ok (.getfield 129, 3) := by decide +kernel
theorem dX3_sender_74 : decode cX3_sender 74 = .ok (.iload_n 1, 1) := by decide +kernel
theorem dX3_sender_75 : decode cX3_sender 75 = .ok (.iaload, 1) := by decide +kernel
theorem dX3_sender_76 : decode cX3_sender 76 = .ok (.ireturn, 1) := by decide +kernel
theorem dX3_sender_77 : decode cX3_sender 77 = .ok (.aload_n 0, 1) := by decide +kernel
theorem dX3_sender_78 : decode cX3_sender 78 = .ok (.getfield 12, 3) := by decide +kernel
theorem dX3_sender_81 : decode cX3_sender 81 = .ok (.getfield 132, 3) := by decide +kernel
theorem dX3_sender_84 : decode cX3_sender 84 = .ok (.iload_n 1, 1) := by decide +kernel
theorem dX3_sender_85 : decode cX3_sender 85 = .ok (.iaload, 1) := by decide +kernel
theorem dX3_sender_86 : decode cX3_sender 86 = .ok (.ireturn, 1) := by decide +kernel
theorem dX3_sender_87 : decode cX3_sender 87 = .ok (.aload_n 0, 1) := by decide +kernel
theorem dX3_sender_88 : decode cX3_sender 88 = .ok (.getfield 12, 3) := by decide +kernel
theorem dX3_sender_91 : decode cX3_sender 91 = .ok (.getfield 135, 3) := by decide +kernel
theorem dX3_sender_94 : decode cX3_sender 94 = .ok (.iload_n 1, 1) := by decide +kernel
theorem dX3_sender_95 : decode cX3_sender 95 = .ok (.iaload, 1) := by decide +kernel
theorem dX3_sender_96 : decode cX3_sender 96 = .ok (.ireturn, 1) := by decide +kernel
theorem dX3_sender_97 : decode cX3_sender 97 = .ok (.bipush (-2), 2) := by decide +kernel
theorem dX3_sender_99 : decode cX3_sender 99 = .ok (.ireturn, 1) := by decide +kernel
set_option maxRecDepth 20000 in
theorem ggX3_total_X1_parcelsOnShelves : GoodIn wsX3_total wsX1_parcelsOnShelves := goodIn_r _ [13, 14, 15, 16, 12, 17, 18, 19, 20, 21, 22, 56, 57, 58, 59, 60, 61, 62, 63, 64, 65, 66, 67, 68, 69] (by decide +kernel) (by decide +kernel)
set_option maxRecDepth 20000 in
theorem gX3_total_X1_parcelsOnShelves : GoodIn wsX3_total (wsV RX3 138 RX1 yX1_parcelsOnShelves wsX1_parcelsOnShelves) := goodIn_app (goodIn_of _ (by decide +kernel)) ggX3_total_X1_parcelsOnShelves
set_option maxRecDepth 20000 in
theorem ggX3_total_X3_sum : GoodIn wsX3_total wsX3_sum := goodIn_r _ [26] (by decide +kernel) (by decide +kernel)
set_option maxRecDepth 20000 in
theorem gX3_total_X3_sum : GoodIn wsX3_total (va_wsS RX3 142 yX3_sum wsX3_sum) := goodIn_app (goodIn_of _ (by decide +kernel)) ggX3_total_X3_sum
set_option maxRecDepth 20000 in
theorem ggX3_total_X1_isLocked : GoodIn wsX3_total wsX1_isLocked := goodIn_r _ [30, 31, 56, 57, 58, 59, 60, 61, 62, 63, 64, 65, 66, 67, 68, 69] (by decide +kernel) (by decide +kernel)
set_option maxRecDepth 20000 in
theorem gX3_total_X1_isLocked : GoodIn wsX3_total (wsV RX3 155 RX1 yX1_isLocked wsX1_isLocked) := goodIn_app (goodIn_of _ (by decide +kernel)) ggX3_total_X1_isLocked
set_option maxRecDepth 20000 in
theorem ggX3_total_X1_feesOnShelves : GoodIn wsX3_total wsX1_feesOnShelves := goodIn_r _ [35, 18, 19, 20, 12, 21, 22, 36, 37, 38, 39, 40, 41, 42, 43, 44, 45, 46, 47, 56, 57, 58, 59, 60, 61, 62, 63, 64, 65, 66, 67, 68, 69] (by decide +kernel) (by decide +kernel)
set_option maxRecDepth 20000 in
theorem gX3_total_X1_feesOnShelves : GoodIn wsX3_total (wsV RX3 159 RX1 yX1_feesOnShelves wsX1_feesOnShelves) := goodIn_app (goodIn_of _ (by decide +kernel)) ggX3_total_X1_feesOnShelves
theorem dX3_total_0 : decode cX3_total 0 = .ok (.iload_n 1, 1) := by decide +kernel
theorem dX3_total_1 : decode cX3_total 1 = .ok (.tableswitch 155 0 9 #[55, 63, 74, 82, 93, 104, 112, 123, 131, 147], 55) := by decide +kernel
theorem dX3_total_56 : decode cX3_total 56 = .ok (.aload_n 0, 1) := by decide +kernel
theorem dX3_total_57 : decode cX3_total 57 = .ok (.getfield 12, 3) := by decide +kernel
theorem dX3_total_60 : decode cX3_total 60 = .ok (.invokevirtual 138, 3) := by decide +kernel
theorem dX3_total_63 : decode cX3_total 63 = .ok (.ireturn, 1) := by decide +kernel
theorem dX3_total_64 : decode cX3_total 64 = .ok (.aload_n 0, 1) := by decide +kernel
theorem dX3_total_65 : decode cX3_total 65 = .ok (.getfield 12, 3) := by decide +kernel
theorem dX3_total_68 : decode cX3_total 68 = .ok (.getfield 126, 3) := by decide +kernel
theorem dX3_total_71 : decode cX3_total 71 = .ok (.invokestatic 142, 3) := by decide +kernel
theorem dX3_total_74 : decode cX3_total 74 = .ok (.ireturn, 1) := by decide +kernel
theorem dX3_total_75 : decode cX3_total 75 = .ok (.aload_n 0, 1) := by decide +kernel
theorem dX3_total_76 : decode cX3_total 76 = .ok (.getfield 12, 3) := by decide +kernel
theorem dX3_total_79 : decode cX3_total 79 = .ok (.getfield 146, 3) := by decide +kernel
theorem dX3_total_82 : decode cX3_total 82 = .ok (.ireturn, 1) := by decide +kernel
theorem dX3_total_83 : decode cX3_total 83 = .ok (.aload_n 0, 1) := by decide +kernel
theorem dX3_total_84 : decode cX3_total 84 = .ok (.getfield 12, 3) := by decide +kernel
theorem dX3_total_87 : decode cX3_total 87 = .ok (.getfield 132, 3) := by decide +kernel
theorem dX3_total_90 : decode cX3_total 90 = .ok (.invokestatic 142, 3) := by decide +kernel
theorem dX3_total_93 : decode cX3_total 93 = .ok (.ireturn, 1) := by decide +kernel
theorem dX3_total_94 : decode cX3_total 94 = .ok (.aload_n 0, 1) := by decide +kernel
theorem dX3_total_95 : decode cX3_total 95 = .ok (.getfield 12, 3) := by decide +kernel
theorem dX3_total_98 : decode cX3_total 98 = .ok (.getfield 135, 3) := by decide +kernel
theorem dX3_total_101 : decode cX3_total 101 = .ok (.invokestatic 142, 3) := by decide +kernel
theorem dX3_total_104 : decode cX3_total 104 = .ok (.ireturn, 1) := by decide +kernel
theorem dX3_total_105 : decode cX3_total 105 = .ok (.aload_n 0, 1) := by decide +kernel
theorem dX3_total_106 : decode cX3_total 106 = .ok (.getfield 12, 3) := by decide +kernel
theorem dX3_total_109 : decode cX3_total 109 = .ok (.getfield 149, 3) := by decide +kernel
theorem dX3_total_112 : decode cX3_total 112 = .ok (.ireturn, 1) := by decide +kernel
theorem dX3_total_113 : decode cX3_total 113 = .ok (.aload_n 0, 1) := by decide +kernel
theorem dX3_total_114 : decode cX3_total 114 = .ok (.getfield 12, 3) := by decide +kernel
theorem dX3_total_117 : decode cX3_total 117 = .ok (.getfield 129, 3) := by decide +kernel
theorem dX3_total_120 : decode cX3_total 120 = .ok (.invokestatic 142, 3) := by decide +kernel
theorem dX3_total_123 : decode cX3_total 123 = .ok (.ireturn, 1) := by decide +kernel
theorem dX3_total_124 : decode cX3_total 124 = .ok (.aload_n 0, 1) := by decide +kernel
theorem dX3_total_125 : decode cX3_total 125 = .ok (.getfield 12, 3) := by decide +kernel
theorem dX3_total_128 : decode cX3_total 128 = .ok (.getfield 152, 3) := by decide +kernel
theorem dX3_total_131 : decode cX3_total 131 = .ok (.ireturn, 1) := by decide +kernel
theorem dX3_total_132 : decode cX3_total 132 = .ok (.aload_n 0, 1) := by decide +kernel
theorem dX3_total_133 : decode cX3_total 133 = .ok (.getfield 12, 3) := by decide +kernel
theorem dX3_total_136 : decode cX3_total 136 = .ok (.invokevirtual 155, 3) := by decide +kernel
theorem dX3_total_139 : decode cX3_total 139 = .ok (.ifCond .eq 7, 3) := by decide +kernel
theorem dX3_total_142 : decode cX3_total 142 = .ok (.iconst 1, 1) := by decide +kernel
theorem dX3_total_143 : decode cX3_total 143 = .ok (.goto 4, 3) := by decide +kernel
theorem dX3_total_146 : decode cX3_total 146 = .ok (.iconst 0, 1) := by decide +kernel
theorem dX3_total_147 : decode cX3_total 147 = .ok (.ireturn, 1) := by decide +kernel
theorem dX3_total_148 : decode cX3_total 148 = .ok (.aload_n 0, 1) := by decide +kernel
theorem dX3_total_149 : decode cX3_total 149 = .ok (.getfield 12, 3) := by decide +kernel
theorem dX3_total_152 : decode cX3_total 152 = .ok (.invokevirtual 159, 3) := by decide +kernel
theorem dX3_total_155 : decode cX3_total 155 = .ok (.ireturn, 1) := by decide +kernel
theorem dX3_total_156 : decode cX3_total 156 = .ok (.bipush (-2), 2) := by decide +kernel
theorem dX3_total_158 : decode cX3_total 158 = .ok (.ireturn, 1) := by decide +kernel
theorem dX3_refusal_0 : decode cX3_refusal 0 = .ok (.iload_n 1, 1) := by decide +kernel
theorem dX3_refusal_1 : decode cX3_refusal 1 = .ok (.lookupswitch 37 #[(0, 27), (1, 32)], 27) := by decide +kernel
theorem dX3_refusal_28 : decode cX3_refusal 28 = .ok (.aload_n 0, 1) := by decide +kernel
theorem dX3_refusal_29 : decode cX3_refusal 29 = .ok (.getfield 40, 3) := by decide +kernel
theorem dX3_refusal_32 : decode cX3_refusal 32 = .ok (.ireturn, 1) := by decide +kernel
theorem dX3_refusal_33 : decode cX3_refusal 33 = .ok (.aload_n 0, 1) := by decide +kernel
theorem dX3_refusal_34 : decode cX3_refusal 34 = .ok (.getfield 44, 3) := by decide +kernel
theorem dX3_refusal_37 : decode cX3_refusal 37 = .ok (.ireturn, 1) := by decide +kernel
theorem dX3_refusal_38 : decode cX3_refusal 38 = .ok (.bipush (-2), 2) := by decide +kernel
theorem dX3_refusal_40 : decode cX3_refusal 40 = .ok (.ireturn, 1) := by decide +kernel
set_option maxRecDepth 20000 in
theorem ggX3_isCode_X3_isWithin : GoodIn wsX3_isCode wsX3_isWithin := goodIn_r _ [4] (by decide +kernel) (by decide +kernel)
set_option maxRecDepth 20000 in
theorem gX3_isCode_X3_isWithin : GoodIn wsX3_isCode (va_wsS RX3 59 yX3_isWithin wsX3_isWithin) := goodIn_app (goodIn_of _ (by decide +kernel)) ggX3_isCode_X3_isWithin
set_option maxRecDepth 20000 in
theorem ggX3_isCode_X3_indexOfCode : GoodIn wsX3_isCode wsX3_indexOfCode := goodIn_r _ [7, 1, 2, 3, 4, 8, 9, 10, 11, 12, 13, 14, 15, 16] (by decide +kernel) (by decide +kernel)
set_option maxRecDepth 20000 in
theorem gX3_isCode_X3_indexOfCode : GoodIn wsX3_isCode (va_wsS RX3 162 yX3_indexOfCode wsX3_indexOfCode) := goodIn_app (goodIn_of _ (by decide +kernel)) ggX3_isCode_X3_indexOfCode
theorem dX3_isCode_0 : decode cX3_isCode 0 = .ok (.iload_n 1, 1) := by decide +kernel
theorem dX3_isCode_1 : decode cX3_isCode 1 = .ok (.iconst 0, 1) := by decide +kernel
theorem dX3_isCode_2 : decode cX3_isCode 2 = .ok (.sipush 9999, 3) := by decide +kernel
theorem dX3_isCode_5 : decode cX3_isCode 5 = .ok (.invokestatic 59, 3) := by decide +kernel
theorem dX3_isCode_8 : decode cX3_isCode 8 = .ok (.ifCond .ne 6, 3) := by decide +kernel
theorem dX3_isCode_11 : decode cX3_isCode 11 = .ok (.bipush (-2), 2) := by decide +kernel
theorem dX3_isCode_13 : decode cX3_isCode 13 = .ok (.ireturn, 1) := by decide +kernel
theorem dX3_isCode_14 : decode cX3_isCode 14 = .ok (.iload_n 1, 1) := by decide +kernel
theorem dX3_isCode_15 : decode cX3_isCode 15 = .ok (.invokestatic 162, 3) := by decide +kernel
theorem dX3_isCode_18 : decode cX3_isCode 18 = .ok (.ifCond .lt 7, 3) := by decide +kernel
theorem dX3_isCode_21 : decode cX3_isCode 21 = .ok (.iconst 1, 1) := by decide +kernel
theorem dX3_isCode_22 : decode cX3_isCode 22 = .ok (.goto 4, 3) := by decide +kernel
theorem dX3_isCode_25 : decode cX3_isCode 25 = .ok (.iconst 0, 1) := by decide +kernel
theorem dX3_isCode_26 : decode cX3_isCode 26 = .ok (.ireturn, 1) := by decide +kernel
set_option maxRecDepth 20000 in
theorem ggX3_codeOf_X3_isPlace : GoodIn wsX3_codeOf wsX3_isPlace := goodIn_r _ [4, 5, 6, 3, 7] (by decide +kernel) (by decide +kernel)
set_option maxRecDepth 20000 in
theorem gX3_codeOf_X3_isPlace : GoodIn wsX3_codeOf (va_wsS RX3 103 yX3_isPlace wsX3_isPlace) := goodIn_app (goodIn_of _ (by decide +kernel)) ggX3_codeOf_X3_isPlace
set_option maxRecDepth 20000 in
theorem ggX3_codeOf_X3_isWithin : GoodIn wsX3_codeOf wsX3_isWithin := goodIn_r _ [7] (by decide +kernel) (by decide +kernel)
set_option maxRecDepth 20000 in
theorem gX3_codeOf_X3_isWithin : GoodIn wsX3_codeOf (va_wsS RX3 59 yX3_isWithin wsX3_isWithin) := goodIn_app (goodIn_of _ (by decide +kernel)) ggX3_codeOf_X3_isWithin
set_option maxRecDepth 20000 in
theorem ggX3_codeOf_X3_weekdayOf : GoodIn wsX3_codeOf wsX3_weekdayOf := goodIn_r _ [10] (by decide +kernel) (by decide +kernel)
set_option maxRecDepth 20000 in
theorem gX3_codeOf_X3_weekdayOf : GoodIn wsX3_codeOf (va_wsS RX3 165 yX3_weekdayOf wsX3_weekdayOf) := goodIn_app (goodIn_of _ (by decide +kernel)) ggX3_codeOf_X3_weekdayOf
set_option maxRecDepth 20000 in
theorem ggX3_codeOf_X3_codeFor : GoodIn wsX3_codeOf wsX3_codeFor := goodIn_r _ [13, 14, 15, 3, 16] (by decide +kernel) (by decide +kernel)
set_option maxRecDepth 20000 in
theorem gX3_codeOf_X3_codeFor : GoodIn wsX3_codeOf (va_wsS RX3 168 yX3_codeFor wsX3_codeFor) := goodIn_app (goodIn_of _ (by decide +kernel)) ggX3_codeOf_X3_codeFor
theorem dX3_codeOf_0 : decode cX3_codeOf 0 = .ok (.iload_n 2, 1) := by decide +kernel
theorem dX3_codeOf_1 : decode cX3_codeOf 1 = .ok (.iload_n 3, 1) := by decide +kernel
theorem dX3_codeOf_2 : decode cX3_codeOf 2 = .ok (.invokestatic 103, 3) := by decide +kernel
theorem dX3_codeOf_5 : decode cX3_codeOf 5 = .ok (.ifCond .ne 5, 3) := by decide +kernel
theorem dX3_codeOf_8 : decode cX3_codeOf 8 = .ok (.iconst (-1), 1) := by decide +kernel
theorem dX3_codeOf_9 : decode cX3_codeOf 9 = .ok (.ireturn, 1) := by decide +kernel
theorem dX3_codeOf_10 : decode cX3_codeOf 10 = .ok (.iload_n 1, 1) := by decide +kernel
theorem dX3_codeOf_11 : decode cX3_codeOf 11 = .ok (.iconst 0, 1) := by decide +kernel
theorem dX3_codeOf_12 : decode cX3_codeOf 12 = .ok (.sipush 9999, 3) := by decide +kernel
theorem dX3_codeOf_15 : decode cX3_codeOf 15 = .ok (.invokestatic 59, 3) := by decide +kernel
theorem dX3_codeOf_18 : decode cX3_codeOf 18 = .ok (.ifCond .ne 6, 3) := by decide +kernel
theorem dX3_codeOf_21 : decode cX3_codeOf 21 = .ok (.bipush (-2), 2) := by decide +kernel
theorem dX3_codeOf_23 : decode cX3_codeOf 23 = .ok (.ireturn, 1) := by decide +kernel
theorem dX3_codeOf_24 : decode cX3_codeOf 24 = .ok (.iload_n 1, 1) := by decide +kernel
theorem dX3_codeOf_25 : decode cX3_codeOf 25 = .ok (.invokestatic 165, 3) := by decide +kernel
theorem dX3_codeOf_28 : decode cX3_codeOf 28 = .ok (.iload_n 2, 1) := by decide +kernel
theorem dX3_codeOf_29 : decode cX3_codeOf 29 = .ok (.bipush 8, 2) := by decide +kernel
theorem dX3_codeOf_31 : decode cX3_codeOf 31 = .ok (.imul, 1) := by decide +kernel
theorem dX3_codeOf_32 : decode cX3_codeOf 32 = .ok (.iload_n 3, 1) := by decide +kernel
theorem dX3_codeOf_33 : decode cX3_codeOf 33 = .ok (.iadd, 1) := by decide +kernel
theorem dX3_codeOf_34 : decode cX3_codeOf 34 = .ok (.invokestatic 168, 3) := by decide +kernel
theorem dX3_codeOf_37 : decode cX3_codeOf 37 = .ok (.ireturn, 1) := by decide +kernel
set_option maxRecDepth 20000 in
theorem ggX3_restsUntil_X3_isWithin : GoodIn wsX3_restsUntil wsX3_isWithin := goodIn_r _ [7] (by decide +kernel) (by decide +kernel)
set_option maxRecDepth 20000 in
theorem gX3_restsUntil_X3_isWithin : GoodIn wsX3_restsUntil (va_wsS RX3 59 yX3_isWithin wsX3_isWithin) := goodIn_app (goodIn_of _ (by decide +kernel)) ggX3_restsUntil_X3_isWithin
set_option maxRecDepth 20000 in
theorem ggX3_restsUntil_X3_indexOfCode : GoodIn wsX3_restsUntil wsX3_indexOfCode := goodIn_r _ [10, 4, 5, 6, 7, 11, 12, 13, 14, 15, 16, 17, 18, 19] (by decide +kernel) (by decide +kernel)
set_option maxRecDepth 20000 in
theorem gX3_restsUntil_X3_indexOfCode : GoodIn wsX3_restsUntil (va_wsS RX3 162 yX3_indexOfCode wsX3_indexOfCode) := goodIn_app (goodIn_of _ (by decide +kernel)) ggX3_restsUntil_X3_indexOfCode
set_option maxRecDepth 20000 in
theorem ggX3_restsUntil_X1_rests : GoodIn wsX3_restsUntil wsX1_rests := goodIn_r _ [24, 25, 26, 27, 36, 37, 38, 39, 40, 41, 42, 43, 44, 45, 46, 47, 48, 49] (by decide +kernel) (by decide +kernel)
set_option maxRecDepth 20000 in
theorem gX3_restsUntil_X1_rests : GoodIn wsX3_restsUntil (wsV RX3 171 RX1 yX1_rests wsX1_rests) := goodIn_app (goodIn_of _ (by decide +kernel)) ggX3_restsUntil_X1_rests
theorem dX3_restsUntil_0 : decode cX3_restsUntil 0 = .ok (.iload_n 1, 1) := by decide +kernel
theorem dX3_restsUntil_1 : decode cX3_restsUntil 1 = .ok (.iconst 0, 1) := by decide +kernel
theorem dX3_restsUntil_2 : decode cX3_restsUntil 2 = .ok (.sipush 9999, 3) := by decide +kernel
theorem dX3_restsUntil_5 : decode cX3_restsUntil 5 = .ok (.invokestatic 59, 3) := by decide +kernel
theorem dX3_restsUntil_8 : decode cX3_restsUntil 8 = .ok (.ifCond .ne 6, 3) := by decide +kernel
theorem dX3_restsUntil_11 : decode cX3_restsUntil 11 = .ok (.bipush (-2), 2) := by decide +kernel
theorem dX3_restsUntil_13 : decode cX3_restsUntil 13 = .ok (.ireturn, 1) := by decide +kernel
theorem dX3_restsUntil_14 : decode cX3_restsUntil 14 = .ok (.iload_n 1, 1) := by decide +kernel
theorem dX3_restsUntil_15 : decode cX3_restsUntil 15 = .ok (.invokestatic 162, 3) := by decide +kernel
theorem dX3_restsUntil_18 : decode cX3_restsUntil 18 = .ok (.istore_n 2, 1) := by decide +kernel
theorem dX3_restsUntil_19 : decode cX3_restsUntil 19 = .ok (.iload_n 2, 1) := by decide +kernel
theorem dX3_restsUntil_20 : decode cX3_restsUntil 20 = .ok (.ifCond .lt 14, 3) := by decide +kernel
theorem dX3_restsUntil_23 : decode cX3_restsUntil 23 = .ok (.aload_n 0, 1) := by decide +kernel
theorem dX3_restsUntil_24 : decode cX3_restsUntil 24 = .ok (.getfield 12, 3) := by decide +kernel
theorem dX3_restsUntil_27 : decode cX3_restsUntil 27 = .ok (.iload_n 2, 1) := by decide +kernel
theorem dX3_restsUntil_28 : decode cX3_restsUntil 28 = .ok (.invokevirtual 171, 3) := by decide +kernel
theorem dX3_restsUntil_31 : decode cX3_restsUntil 31 = .ok (.ifCond .ne 6, 3) := by decide +kernel
theorem dX3_restsUntil_34 : decode cX3_restsUntil 34 = .ok (.bipush (-6), 2) := by decide +kernel
theorem dX3_restsUntil_36 : decode cX3_restsUntil 36 = .ok (.ireturn, 1) := by decide +kernel
theorem dX3_restsUntil_37 : decode cX3_restsUntil 37 = .ok (.aload_n 0, 1) := by decide +kernel
theorem dX3_restsUntil_38 : decode cX3_restsUntil 38 = .ok (.getfield 12, 3) := by decide +kernel
theorem dX3_restsUntil_41 : decode cX3_restsUntil 41 = .ok (.getfield 174, 3) := by decide +kernel
theorem dX3_restsUntil_44 : decode cX3_restsUntil 44 = .ok (.iload_n 2, 1) := by decide +kernel
theorem dX3_restsUntil_45 : decode cX3_restsUntil 45 = .ok (.iaload, 1) := by decide +kernel
theorem dX3_restsUntil_46 : decode cX3_restsUntil 46 = .ok (.aload_n 0, 1) := by decide +kernel
theorem dX3_restsUntil_47 : decode cX3_restsUntil 47 = .ok (.getfield 12, 3) := by decide +kernel
theorem dX3_restsUntil_50 : decode cX3_restsUntil 50 = .ok (.getfield 63, 3) := by decide +kernel
theorem dX3_restsUntil_53 : decode cX3_restsUntil 53 = .ok (.iconst 0, 1) := by decide +kernel
theorem dX3_restsUntil_54 : decode cX3_restsUntil 54 = .ok (.iaload, 1) := by decide +kernel
theorem dX3_restsUntil_55 : decode cX3_restsUntil 55 = .ok (.iadd, 1) := by decide +kernel
theorem dX3_restsUntil_56 : decode cX3_restsUntil 56 = .ok (.ireturn, 1) := by decide +kernel
set_option maxRecDepth 20000 in
theorem ggX3_nextCode_X3_isWithin : GoodIn wsX3_nextCode wsX3_isWithin := goodIn_r _ [6] (by decide +kernel) (by decide +kernel)
set_option maxRecDepth 20000 in
theorem gX3_nextCode_X3_isWithin : GoodIn wsX3_nextCode (va_wsS RX3 59 yX3_isWithin wsX3_isWithin) := goodIn_app (goodIn_of _ (by decide +kernel)) ggX3_nextCode_X3_isWithin
set_option maxRecDepth 20000 in
theorem ggX3_nextCode_X3_firstShelfFor : GoodIn wsX3_nextCode wsX3_firstShelfFor := goodIn_r _ [9] (by decide +kernel) (by decide +kernel)
set_option maxRecDepth 20000 in
theorem gX3_nextCode_X3_firstShelfFor : GoodIn wsX3_nextCode (va_wsS RX3 177 yX3_firstShelfFor wsX3_firstShelfFor) := goodIn_app (goodIn_of _ (by decide +kernel)) ggX3_nextCode_X3_firstShelfFor
set_option maxRecDepth 20000 in
theorem ggX3_nextCode_X1_placeToGive : GoodIn wsX3_nextCode wsX1_placeToGive := goodIn_r _ [14, 15, 16, 17, 13, 18, 19, 20, 21, 22, 23, 24, 25, 5, 26, 27, 28, 29, 30, 31, 32, 33, 34, 50, 51, 52, 53, 54, 55, 56, 57, 58, 59, 60, 61, 62, 63] (by decide +kernel) (by decide +kernel)
set_option maxRecDepth 20000 in
theorem gX3_nextCode_X1_placeToGive : GoodIn wsX3_nextCode (wsV RX3 180 RX1 yX1_placeToGive wsX1_placeToGive) := goodIn_app (goodIn_of _ (by decide +kernel)) ggX3_nextCode_X1_placeToGive
set_option maxRecDepth 20000 in
theorem ggX3_nextCode_X3_weekdayOf : GoodIn wsX3_nextCode wsX3_weekdayOf := goodIn_r _ [26] (by decide +kernel) (by decide +kernel)
set_option maxRecDepth 20000 in
theorem gX3_nextCode_X3_weekdayOf : GoodIn wsX3_nextCode (va_wsS RX3 165 yX3_weekdayOf wsX3_weekdayOf) := goodIn_app (goodIn_of _ (by decide +kernel)) ggX3_nextCode_X3_weekdayOf
set_option maxRecDepth 20000 in
theorem ggX3_nextCode_X3_codeFor : GoodIn wsX3_nextCode wsX3_codeFor := goodIn_r _ [38, 39, 40, 5, 41] (by decide +kernel) (by decide +kernel)
set_option maxRecDepth 20000 in
theorem gX3_nextCode_X3_codeFor : GoodIn wsX3_nextCode (va_wsS RX3 168 yX3_codeFor wsX3_codeFor) := goodIn_app (goodIn_of _ (by decide +kernel)) ggX3_nextCode_X3_codeFor
theorem dX3_nextCode_0 : decode cX3_nextCode 0 = .ok (.iload_n 1, 1) := by decide +kernel
theorem dX3_nextCode_1 : decode cX3_nextCode 1 = .ok (.iconst 0, 1) := by decide +kernel
theorem dX3_nextCode_2 : decode cX3_nextCode 2 = .ok (.iconst 2, 1) := by decide +kernel
theorem dX3_nextCode_3 : decode cX3_nextCode 3 = .ok (.invokestatic 59, 3) := by decide +kernel
theorem dX3_nextCode_6 : decode cX3_nextCode 6 = .ok (.ifCond .ne 6, 3) := by decide +kernel
theorem dX3_nextCode_9 : decode cX3_nextCode 9 = .ok (.bipush (-2), 2) := by decide +kernel
theorem dX3_nextCode_11 : decode cX3_nextCode 11 = .ok (.ireturn, 1) := by decide +kernel
theorem dX3_nextCode_12 : decode cX3_nextCode 12 = .ok (.aload_n 0, 1) := by decide +kernel
theorem dX3_nextCode_13 : decode cX3_nextCode 13 = .ok (.getfield 12, 3) := by decide +kernel
theorem dX3_nextCode_16 : decode cX3_nextCode 16 = .ok (.iload_n 1, 1) := by decide +kernel
theorem dX3_nextCode_17 : decode cX3_nextCode 17 = .ok (.invokestatic 177, 3) := by decide +kernel
theorem dX3_nextCode_20 : decode cX3_nextCode 20 = .ok (.iconst 5, 1) := by decide +kernel
theorem dX3_nextCode_21 : decode cX3_nextCode 21 = .ok (.invokevirtual 180, 3) := by decide +kernel
theorem dX3_nextCode_24 : decode cX3_nextCode 24 = .ok (.istore_n 2, 1) := by decide +kernel
theorem dX3_nextCode_25 : decode cX3_nextCode 25 = .ok (.iload_n 2, 1) := by decide +kernel
theorem dX3_nextCode_26 : decode cX3_nextCode 26 = .ok (.iconst (-1), 1) := by decide +kernel
theorem dX3_nextCode_27 : decode cX3_nextCode 27 = .ok (.if_icmp .ne 8, 3) := by decide +kernel
theorem dX3_nextCode_30 : decode cX3_nextCode 30 = .ok (.bipush (-6), 2) := by decide +kernel
theorem dX3_nextCode_32 : decode cX3_nextCode 32 = .ok (.goto 17, 3) := by decide +kernel
theorem dX3_nextCode_35 : decode cX3_nextCode 35 = .ok (.aload_n 0, 1) := by decide +kernel
theorem dX3_nextCode_36 : decode cX3_nextCode 36 = .ok (.getfield 12, 3) := by decide +kernel
theorem dX3_nextCode_39 : decode cX3_nextCode 39 = .ok (.getfield 85, 3) := by decide +kernel
theorem dX3_nextCode_42 : decode cX3_nextCode 42 = .ok (.invokestatic 165, 3) := by decide +kernel
theorem dX3_nextCode_45 : decode cX3_nextCode 45 = .ok (.iload_n 2, 1) := by decide +kernel
theorem dX3_nextCode_46 : decode cX3_nextCode 46 = .ok (.invokestatic 168, 3) := by decide +kernel
theorem dX3_nextCode_49 : decode cX3_nextCode 49 = .ok (.ireturn, 1) := by decide +kernel
set_option maxRecDepth 20000 in
theorem ggX3_feeIn_X1_placeWith : GoodIn wsX3_feeIn wsX1_placeWith := goodIn_r _ [6, 7, 8, 9, 10, 11, 12, 13, 14, 15, 16, 17, 18, 19, 20, 21, 22, 43, 44, 45, 46, 47, 48, 49, 50, 51, 52, 53, 54, 55, 56] (by decide +kernel) (by decide +kernel)
set_option maxRecDepth 20000 in
theorem gX3_feeIn_X1_placeWith : GoodIn wsX3_feeIn (wsV RX3 88 RX1 yX1_placeWith wsX1_placeWith) := goodIn_app (goodIn_of _ (by decide +kernel)) ggX3_feeIn_X1_placeWith
set_option maxRecDepth 20000 in
theorem ggX3_feeIn_X3_isWithin : GoodIn wsX3_feeIn wsX3_isWithin := goodIn_r _ [13] (by decide +kernel) (by decide +kernel)
set_option maxRecDepth 20000 in
theorem gX3_feeIn_X3_isWithin : GoodIn wsX3_feeIn (va_wsS RX3 59 yX3_isWithin wsX3_isWithin) := goodIn_app (goodIn_of _ (by decide +kernel)) ggX3_feeIn_X3_isWithin
set_option maxRecDepth 20000 in
theorem ggX3_feeIn_X1_feeAfter : GoodIn wsX3_feeIn wsX1_feeAfter := goodIn_r _ [26, 27, 28, 29, 30, 31, 32, 33, 34, 43, 44, 45, 46, 47, 48, 49, 50, 51, 52, 53, 54, 55, 56] (by decide +kernel) (by decide +kernel)
set_option maxRecDepth 20000 in
theorem gX3_feeIn_X1_feeAfter : GoodIn wsX3_feeIn (wsV RX3 100 RX1 yX1_feeAfter wsX1_feeAfter) := goodIn_app (goodIn_of _ (by decide +kernel)) ggX3_feeIn_X1_feeAfter
theorem dX3_feeIn_0 : decode cX3_feeIn 0 = .ok (.aload_n 0, 1) := by decide +kernel
theorem dX3_feeIn_1 : decode cX3_feeIn 1 = .ok (.getfield 12, 3) := by decide +kernel
theorem dX3_feeIn_4 : decode cX3_feeIn 4 = .ok (.iload_n 1, 1) := by decide +kernel
theorem dX3_feeIn_5 : decode cX3_feeIn 5 = .ok (.invokevirtual 88, 3) := by decide +kernel
theorem dX3_feeIn_8 : decode cX3_feeIn 8 = .ok (.istore_n 3, 1) := by decide +kernel
theorem dX3_feeIn_9 : decode cX3_feeIn 9 = .ok (.iload_n 3, 1) := by decide +kernel
theorem dX3_feeIn_10 : decode cX3_feeIn 10 = .ok (.iconst (-1), 1) := by decide +kernel
theorem dX3_feeIn_11 : decode cX3_feeIn 11 = .ok (.if_icmp .ne 5, 3) := by decide +kernel
theorem dX3_feeIn_14 : decode cX3_feeIn 14 = .ok (.iconst (-1), 1) := by decide +kernel
theorem dX3_feeIn_15 : decode cX3_feeIn 15 = .ok (.ireturn, 1) := by decide +kernel
theorem dX3_feeIn_16 : decode cX3_feeIn 16 = .ok (.iload_n 2, 1) := by decide +kernel
theorem dX3_feeIn_17 : decode cX3_feeIn 17 = .ok (.iconst 0, 1) := by decide +kernel
theorem dX3_feeIn_18 : decode cX3_feeIn 18 = .ok (.bipush 99, 2) := by decide +kernel
theorem dX3_feeIn_20 : decode cX3_feeIn 20 = .ok (.invokestatic 59, 3) := by decide +kernel
theorem dX3_feeIn_23 : decode cX3_feeIn 23 = .ok (.ifCond .ne 6, 3) := by decide +kernel
theorem dX3_feeIn_26 : decode cX3_feeIn 26 = .ok (.bipush (-2), 2) := by decide +kernel
theorem dX3_feeIn_28 : decode cX3_feeIn 28 = .ok (.ireturn, 1) := by decide +kernel
theorem dX3_feeIn_29 : decode cX3_feeIn 29 = .ok (.aload_n 0, 1) := by decide +kernel
theorem dX3_feeIn_30 : decode cX3_feeIn 30 = .ok (.getfield 12, 3) := by decide +kernel
theorem dX3_feeIn_33 : decode cX3_feeIn 33 = .ok (.iload_n 3, 1) := by decide +kernel
theorem dX3_feeIn_34 : decode cX3_feeIn 34 = .ok (.iload_n 2, 1) := by decide +kernel
theorem dX3_feeIn_35 : decode cX3_feeIn 35 = .ok (.invokevirtual 100, 3) := by decide +kernel
theorem dX3_feeIn_38 : decode cX3_feeIn 38 = .ok (.ireturn, 1) := by decide +kernel
set_option maxRecDepth 20000 in
theorem ggX3_changeSetting_X3_isWithin : GoodIn wsX3_changeSetting wsX3_isWithin := goodIn_r _ [8] (by decide +kernel) (by decide +kernel)
set_option maxRecDepth 20000 in
theorem gX3_changeSetting_X3_isWithin : GoodIn wsX3_changeSetting (va_wsS RX3 59 yX3_isWithin wsX3_isWithin) := goodIn_app (goodIn_of _ (by decide +kernel)) ggX3_changeSetting_X3_isWithin
theorem dX3_changeSetting_0 : decode cX3_changeSetting 0 = .ok (.iload_n 1, 1) := by decide +kernel
theorem dX3_changeSetting_1 : decode cX3_changeSetting 1 = .ok (.iconst 0, 1) := by decide +kernel
theorem dX3_changeSetting_2 : decode cX3_changeSetting 2 = .ok (.iconst 4, 1) := by decide +kernel
theorem dX3_changeSetting_3 : decode cX3_changeSetting 3 = .ok (.invokestatic 59, 3) := by decide +kernel
theorem dX3_changeSetting_6 : decode cX3_changeSetting 6 = .ok (.ifCond .ne 6, 3) := by decide +kernel
theorem dX3_changeSetting_9 : decode cX3_changeSetting 9 = .ok (.bipush (-2), 2) := by decide +kernel
theorem dX3_changeSetting_11 : decode cX3_changeSetting 11 = .ok (.ireturn, 1) := by decide +kernel
theorem dX3_changeSetting_12 : decode cX3_changeSetting 12 = .ok (.iload_n 2, 1) := by decide +kernel
theorem dX3_changeSetting_13 : decode cX3_changeSetting 13 = .ok (.getstatic 221, 3) := by decide +kernel
theorem dX3_changeSetting_16 : decode cX3_changeSetting 16 = .ok (.iload_n 1, 1) := by decide +kernel
theorem dX3_changeSetting_17 : decode cX3_changeSetting 17 = .ok (.iaload, 1) := by decide +kernel
theorem dX3_changeSetting_18 : decode cX3_changeSetting 18 = .ok (.getstatic 224, 3) := by decide +kernel
theorem dX3_changeSetting_21 : decode cX3_changeSetting 21 = .ok (.iload_n 1, 1) := by decide +kernel
theorem dX3_changeSetting_22 : decode cX3_changeSetting 22 = .ok (.iaload, 1) := by decide +kernel
theorem dX3_changeSetting_23 : decode cX3_changeSetting 23 = .ok (.invokestatic 59, 3) := by decide +kernel
theorem dX3_changeSetting_26 : decode cX3_changeSetting 26 = .ok (.ifCond .ne 6, 3) := by decide +kernel
theorem dX3_changeSetting_29 : decode cX3_changeSetting 29 = .ok (.bipush (-2), 2) := by decide +kernel
theorem dX3_changeSetting_31 : decode cX3_changeSetting 31 = .ok (.ireturn, 1) := by decide +kernel
theorem dX3_changeSetting_32 : decode cX3_changeSetting 32 = .ok (.aload_n 0, 1) := by decide +kernel
theorem dX3_changeSetting_33 : decode cX3_changeSetting 33 = .ok (.getfield 12, 3) := by decide +kernel
theorem dX3_changeSetting_36 : decode cX3_changeSetting 36 = .ok (.getfield 63, 3) := by decide +kernel
theorem dX3_changeSetting_39 : decode cX3_changeSetting 39 = .ok (.iload_n 1, 1) := by decide +kernel
theorem dX3_changeSetting_40 : decode cX3_changeSetting 40 = .ok (.iaload, 1) := by decide +kernel
theorem dX3_changeSetting_41 : decode cX3_changeSetting 41 = .ok (.istore_n 3, 1) := by decide +kernel
theorem dX3_changeSetting_42 : decode cX3_changeSetting 42 = .ok (.aload_n 0, 1) := by decide +kernel
theorem dX3_changeSetting_43 : decode cX3_changeSetting 43 = .ok (.getfield 12, 3) := by decide +kernel
theorem dX3_changeSetting_46 : decode cX3_changeSetting 46 = .ok (.getfield 63, 3) := by decide +kernel
theorem dX3_changeSetting_49 : decode cX3_changeSetting 49 = .ok (.iload_n 1, 1) := by decide +kernel
theorem dX3_changeSetting_50 : decode cX3_changeSetting 50 = .ok (.iload_n 2, 1) := by decide +kernel
theorem dX3_changeSetting_51 : decode cX3_changeSetting 51 = .ok (.iastore, 1) := by decide +kernel
theorem dX3_changeSetting_52 : decode cX3_changeSetting 52 = .ok (.iload_n 3, 1) := by decide +kernel
theorem dX3_changeSetting_53 : decode cX3_changeSetting 53 = .ok (.ireturn, 1) := by decide +kernel
set_option maxRecDepth 20000 in
theorem ggX3_letCome_X3_isWithin : GoodIn wsX3_letCome wsX3_isWithin := goodIn_r _ [7] (by decide +kernel) (by decide +kernel)
set_option maxRecDepth 20000 in
theorem gX3_letCome_X3_isWithin : GoodIn wsX3_letCome (va_wsS RX3 59 yX3_isWithin wsX3_isWithin) := goodIn_app (goodIn_of _ (by decide +kernel)) ggX3_letCome_X3_isWithin
set_option maxRecDepth 20000 in
theorem ggX3_letCome_X3_firstShelfFor : GoodIn wsX3_letCome wsX3_firstShelfFor := goodIn_r _ [10] (by decide +kernel) (by decide +kernel)
set_option maxRecDepth 20000 in
theorem gX3_letCome_X3_firstShelfFor : GoodIn wsX3_letCome (va_wsS RX3 177 yX3_firstShelfFor wsX3_firstShelfFor) := goodIn_app (goodIn_of _ (by decide +kernel)) ggX3_letCome_X3_firstShelfFor
set_option maxRecDepth 20000 in
theorem ggX3_letCome_X1_placeToGive : GoodIn wsX3_letCome wsX1_placeToGive := goodIn_r _ [15, 16, 17, 18, 14, 19, 20, 21, 22, 23, 24, 25, 26, 6, 27, 28, 29, 30, 31, 32, 33, 34, 35, 74, 75, 76, 77, 78, 79, 80, 81, 82, 83, 84, 85, 86, 87] (by decide +kernel) (by decide +kernel)
set_option maxRecDepth 20000 in
theorem gX3_letCome_X1_placeToGive : GoodIn wsX3_letCome (wsV RX3 180 RX1 yX1_placeToGive wsX1_placeToGive) := goodIn_app (goodIn_of _ (by decide +kernel)) ggX3_letCome_X1_placeToGive
set_option maxRecDepth 20000 in
theorem ggX3_letCome_X3_refuseForNoPlace : GoodIn wsX3_letCome wsX3_refuseForNoPlace := goodIn_r _ [39, 1, 40, 41, 42, 14, 43, 16, 17, 18, 19, 20, 44, 45, 46, 6, 47, 48, 49, 66, 67, 68, 69, 70, 71, 72, 73, 74, 75, 76, 77, 78, 79, 80, 81, 82, 83, 84, 85, 86, 87] (by decide +kernel) (by decide +kernel)
set_option maxRecDepth 20000 in
theorem gX3_letCome_X3_refuseForNoPlace : GoodIn wsX3_letCome (wsV RX3 227 RX3 yX3_refuseForNoPlace wsX3_refuseForNoPlace) := goodIn_app (goodIn_of _ (by decide +kernel)) ggX3_letCome_X3_refuseForNoPlace
set_option maxRecDepth 20000 in
theorem ggX3_letCome_X1_put : GoodIn wsX3_letCome wsX1_put := goodIn_r _ [53, 20, 25, 54, 55, 56, 26, 6, 27, 74, 75, 76, 77, 78, 79, 80, 81, 82, 83, 84, 85, 86, 87] (by decide +kernel) (by decide +kernel)
set_option maxRecDepth 20000 in
theorem gX3_letCome_X1_put : GoodIn wsX3_letCome (wsV RX3 231 RX1 yX1_put wsX1_put) := goodIn_app (goodIn_of _ (by decide +kernel)) ggX3_letCome_X1_put
set_option maxRecDepth 20000 in
theorem ggX3_letCome_X1_codeOn : GoodIn wsX3_letCome wsX1_codeOn := goodIn_r _ [60, 20, 61, 6, 62, 63, 64, 65, 74, 75, 76, 77, 78, 79, 80, 81, 82, 83, 84, 85, 86, 87] (by decide +kernel) (by decide +kernel)
set_option maxRecDepth 20000 in
theorem gX3_letCome_X1_codeOn : GoodIn wsX3_letCome (wsV RX3 111 RX1 yX1_codeOn wsX1_codeOn) := goodIn_app (goodIn_of _ (by decide +kernel)) ggX3_letCome_X1_codeOn
theorem dX3_letCome_0 : decode cX3_letCome 0 = .ok (.iload_n 1, 1) := by decide +kernel
theorem dX3_letCome_1 : decode cX3_letCome 1 = .ok (.iconst 0, 1) := by decide +kernel
theorem dX3_letCome_2 : decode cX3_letCome 2 = .ok (.bipush 9, 2) := by decide +kernel
theorem dX3_letCome_4 : decode cX3_letCome 4 = .ok (.invokestatic 59, 3) := by decide +kernel
theorem dX3_letCome_7 : decode cX3_letCome 7 = .ok (.ifCond .ne 5, 3) := by decide +kernel
theorem dX3_letCome_10 : decode cX3_letCome 10 = .ok (.iconst (-1), 1) := by decide +kernel
theorem dX3_letCome_11 : decode cX3_letCome 11 = .ok (.ireturn, 1) := by decide +kernel
theorem dX3_letCome_12 : decode cX3_letCome 12 = .ok (.iload_n 2, 1) := by decide +kernel
theorem dX3_letCome_13 : decode cX3_letCome 13 = .ok (.iconst 0, 1) := by decide +kernel
theorem dX3_letCome_14 : decode cX3_letCome 14 = .ok (.iconst 2, 1) := by decide +kernel
theorem dX3_letCome_15 : decode cX3_letCome 15 = .ok (.invokestatic 59, 3) := by decide +kernel
theorem dX3_letCome_18 : decode cX3_letCome 18 = .ok (.ifCond .ne 6, 3) := by decide +kernel
theorem dX3_letCome_21 : decode cX3_letCome 21 = .ok (.bipush (-2), 2) := by decide +kernel
theorem dX3_letCome_23 : decode cX3_letCome 23 = .ok (.ireturn, 1) := by decide +kernel
theorem dX3_letCome_24 : decode cX3_letCome 24 = .ok (.aload_n 0, 1) := by decide +kernel
theorem dX3_letCome_25 : decode cX3_letCome 25 = .ok (.getfield 12, 3) := by decide +kernel
theorem dX3_letCome_28 : decode cX3_letCome 28 = .ok (.iload_n 2, 1) := by decide +kernel
theorem dX3_letCome_29 : decode cX3_letCome 29 = .ok (.invokestatic 177, 3) := by decide +kernel
theorem dX3_letCome_32 : decode cX3_letCome 32 = .ok (.iconst 5, 1) := by decide +kernel
theorem dX3_letCome_33 : decode cX3_letCome 33 = .ok (.invokevirtual 180, 3) := by decide +kernel
theorem dX3_letCome_36 : decode cX3_letCome 36 = .ok (.istore_n 3, 1) := by decide +kernel
theorem dX3_letCome_37 : decode cX3_letCome 37 = .ok (.iload_n 3, 1) := by decide +kernel
theorem dX3_letCome_38 : decode cX3_letCome 38 = .ok (.iconst (-1), 1) := by decide +kernel
theorem dX3_letCome_39 : decode cX3_letCome 39 = .ok (.if_icmp .ne 15, 3) := by decide +kernel
theorem dX3_letCome_42 : decode cX3_letCome 42 = .ok (.aload_n 0, 1) := by decide +kernel
theorem dX3_letCome_43 : decode cX3_letCome 43 = .ok (.iload_n 2, 1) := by decide +kernel
theorem dX3_letCome_44 : decode cX3_letCome 44 = .ok (.invokestatic 177, 3) := by decide +kernel
theorem dX3_letCome_47 : decode cX3_letCome 47 = .ok (.iconst 5, 1) := by decide +kernel
theorem dX3_letCome_48 : decode cX3_letCome 48 = .ok (.invokevirtual 227, 3) := by decide +kernel
theorem dX3_letCome_51 : decode cX3_letCome 51 = .ok (.bipush (-4), 2) := by decide +kernel
theorem dX3_letCome_53 : decode cX3_letCome 53 = .ok (.ireturn, 1) := by decide +kernel
theorem dX3_letCome_54 : decode cX3_letCome 54 = .ok (.aload_n 0, 1) := by decide +kernel
theorem dX3_letCome_55 : decode cX3_letCome 55 = .ok (.getfield 12, 3) := by decide +kernel
theorem dX3_letCome_58 : decode cX3_letCome 58 = .ok (.iload_n 3, 1) := by decide +kernel
theorem dX3_letCome_59 : decode cX3_letCome 59 = .ok (.iload_n 1, 1) := by decide +kernel
theorem dX3_letCome_60 : decode cX3_letCome 60 = .ok (.iload_n 2, 1) := by decide +kernel
theorem dX3_letCome_61 : decode cX3_letCome 61 = .ok (.aload_n 0, 1) := by decide +kernel
theorem dX3_letCome_62 : decode cX3_letCome 62 = .ok (.getfield 12, 3) := by decide +kernel
theorem dX3_letCome_65 : decode cX3_letCome 65 = .ok (.getfield 85, 3) := by decide +kernel
theorem dX3_letCome_68 : decode cX3_letCome 68 = .ok (.invokevirtual 231, 3) := by decide +kernel
theorem dX3_letCome_71 : decode cX3_letCome 71 = .ok (.aload_n 0, 1) := by decide +kernel
theorem dX3_letCome_72 : decode cX3_letCome 72 = .ok (.getfield 12, 3) := by decide +kernel
theorem dX3_letCome_75 : decode cX3_letCome 75 = .ok (.dup, 1) := by decide +kernel
theorem dX3_letCome_76 : decode cX3_letCome 76 = .ok (.getfield 146, 3) := by decide +kernel
theorem dX3_letCome_79 : decode cX3_letCome 79 = .ok (.iconst 1, 1) := by decide +kernel
theorem dX3_letCome_80 : decode cX3_letCome 80 = .ok (.iadd, 1) := by decide +kernel
theorem dX3_letCome_81 : decode cX3_letCome 81 = .ok (.putfield 146, 3) := by decide +kernel
theorem dX3_letCome_84 : decode cX3_letCome 84 = .ok (.aload_n 0, 1) := by decide +kernel
theorem dX3_letCome_85 : decode cX3_letCome 85 = .ok (.getfield 12, 3) := by decide +kernel
theorem dX3_letCome_88 : decode cX3_letCome 88 = .ok (.iload_n 3, 1) := by decide +kernel
theorem dX3_letCome_89 : decode cX3_letCome 89 = .ok (.invokevirtual 111, 3) := by decide +kernel
theorem dX3_letCome_92 : decode cX3_letCome 92 = .ok (.ireturn, 1) := by decide +kernel
set_option maxRecDepth 20000 in
theorem ggX3_letFetch_X3_isWithin : GoodIn wsX3_letFetch wsX3_isWithin := goodIn_r _ [9] (by decide +kernel) (by decide +kernel)
set_option maxRecDepth 20000 in
theorem gX3_letFetch_X3_isWithin : GoodIn wsX3_letFetch (va_wsS RX3 59 yX3_isWithin wsX3_isWithin) := goodIn_app (goodIn_of _ (by decide +kernel)) ggX3_letFetch_X3_isWithin
set_option maxRecDepth 20000 in
theorem ggX3_letFetch_X1_isLocked : GoodIn wsX3_letFetch wsX1_isLocked := goodIn_r _ [14, 15, 63, 64, 65, 66, 67, 68, 69, 70, 71, 72, 73, 74, 75, 76] (by decide +kernel) (by decide +kernel)
set_option maxRecDepth 20000 in
theorem gX3_letFetch_X1_isLocked : GoodIn wsX3_letFetch (wsV RX3 155 RX1 yX1_isLocked wsX1_isLocked) := goodIn_app (goodIn_of _ (by decide +kernel)) ggX3_letFetch_X1_isLocked
set_option maxRecDepth 20000 in
theorem ggX3_letFetch_X3_refuseFor : GoodIn wsX3_letFetch wsX3_refuseFor := goodIn_r _ [19, 20, 21, 55, 56, 57, 58, 59, 60, 61, 62] (by decide +kernel) (by decide +kernel)
set_option maxRecDepth 20000 in
theorem gX3_letFetch_X3_refuseFor : GoodIn wsX3_letFetch (wsV RX3 235 RX3 yX3_refuseFor wsX3_refuseFor) := goodIn_app (goodIn_of _ (by decide +kernel)) ggX3_letFetch_X3_refuseFor
set_option maxRecDepth 20000 in
theorem ggX3_letFetch_X1_placeWith : GoodIn wsX3_letFetch wsX1_placeWith := goodIn_r _ [25, 26, 27, 8, 28, 6, 7, 9, 29, 30, 31, 32, 33, 34, 35, 36, 37, 63, 64, 65, 66, 67, 68, 69, 70, 71, 72, 73, 74, 75, 76] (by decide +kernel) (by decide +kernel)
set_option maxRecDepth 20000 in
theorem gX3_letFetch_X1_placeWith : GoodIn wsX3_letFetch (wsV RX3 88 RX1 yX1_placeWith wsX1_placeWith) := goodIn_app (goodIn_of _ (by decide +kernel)) ggX3_letFetch_X1_placeWith
set_option maxRecDepth 20000 in
theorem ggX3_letFetch_X1_feeAfter : GoodIn wsX3_letFetch wsX1_feeAfter := goodIn_r _ [41, 42, 43, 44, 45, 46, 47, 48, 49, 63, 64, 65, 66, 67, 68, 69, 70, 71, 72, 73, 74, 75, 76] (by decide +kernel) (by decide +kernel)
set_option maxRecDepth 20000 in
theorem gX3_letFetch_X1_feeAfter : GoodIn wsX3_letFetch (wsV RX3 100 RX1 yX1_feeAfter wsX1_feeAfter) := goodIn_app (goodIn_of _ (by decide +kernel)) ggX3_letFetch_X1_feeAfter
set_option maxRecDepth 20000 in
theorem ggX3_letFetch_X1_leave : GoodIn wsX3_letFetch wsX1_leave := goodIn_r _ [53, 26, 54, 42, 36, 8, 37, 63, 64, 65, 66, 67, 68, 69, 70, 71, 72, 73, 74, 75, 76] (by decide +kernel) (by decide +kernel)
set_option maxRecDepth 20000 in
theorem gX3_letFetch_X1_leave : GoodIn wsX3_letFetch (wsV RX3 238 RX1 yX1_leave wsX1_leave) := goodIn_app (goodIn_of _ (by decide +kernel)) ggX3_letFetch_X1_leave
theorem dX3_letFetch_0 : decode cX3_letFetch 0 = .ok (.iload_n 1, 1) := by decide +kernel
theorem dX3_letFetch_1 : decode cX3_letFetch 1 = .ok (.iconst 0, 1) := by decide +kernel
theorem dX3_letFetch_2 : decode cX3_letFetch 2 = .ok (.sipush 9999, 3) := by decide +kernel
theorem dX3_letFetch_5 : decode cX3_letFetch 5 = .ok (.invokestatic 59, 3) := by decide +kernel
theorem dX3_letFetch_8 : decode cX3_letFetch 8 = .ok (.ifCond .ne 6, 3) := by decide +kernel
theorem dX3_letFetch_11 : decode cX3_letFetch 11 = .ok (.bipush (-2), 2) := by decide +kernel
theorem dX3_letFetch_13 : decode cX3_letFetch 13 = .ok (.ireturn, 1) := by decide +kernel
theorem dX3_letFetch_14 : decode cX3_letFetch 14 = .ok (.aload_n 0, 1) := by decide +kernel
theorem dX3_letFetch_15 : decode cX3_letFetch 15 = .ok (.getfield 12, 3) := by decide +kernel
theorem dX3_letFetch_18 : decode cX3_letFetch 18 = .ok (.invokevirtual 155, 3) := by decide +kernel
theorem dX3_letFetch_21 : decode cX3_letFetch 21 = .ok (.ifCond .eq 13, 3) := by decide +kernel
theorem dX3_letFetch_24 : decode cX3_letFetch 24 = .ok (.aload_n 0, 1) := by decide +kernel
theorem dX3_letFetch_25 : decode cX3_letFetch 25 = .ok (.iconst 2, 1) := by decide +kernel
theorem dX3_letFetch_26 : decode cX3_letFetch 26 = .ok (.bipush (-6), 2) := by decide +kernel
theorem dX3_letFetch_28 : decode cX3_letFetch 28 = .ok (.invokevirtual 235, 3) := by decide +kernel
theorem dX3_letFetch_31 : decode cX3_letFetch 31 = .ok (.bipush (-3), 2) := by decide +kernel
theorem dX3_letFetch_33 : decode cX3_letFetch 33 = .ok (.ireturn, 1) := by decide +kernel
theorem dX3_letFetch_34 : decode cX3_letFetch 34 = .ok (.aload_n 0, 1) := by decide +kernel
theorem dX3_letFetch_35 : decode cX3_letFetch 35 = .ok (.getfield 12, 3) := by decide +kernel
theorem dX3_letFetch_38 : decode cX3_letFetch 38 = .ok (.iload_n 1, 1) := by decide +kernel
theorem dX3_letFetch_39 : decode cX3_letFetch 39 = .ok (.invokevirtual 88, 3) := by decide +kernel
theorem dX3_letFetch_42 : decode cX3_letFetch 42 = .ok (.istore_n 2, 1) := by decide +kernel
theorem dX3_letFetch_43 : decode cX3_letFetch 43 = .ok (.iload_n 2, 1) := by decide +kernel
theorem dX3_letFetch_44 : decode cX3_letFetch 44 = .ok (.iconst (-1), 1) := by decide +kernel
theorem dX3_letFetch_45 : decode cX3_letFetch 45 = .ok (.if_icmp .ne 19, 3) := by decide +kernel
theorem dX3_letFetch_48 : decode cX3_letFetch 48 = .ok (.aload_n 0, 1) := by decide +kernel
theorem dX3_letFetch_49 : decode cX3_letFetch 49 = .ok (.getfield 12, 3) := by decide +kernel
theorem dX3_letFetch_52 : decode cX3_letFetch 52 = .ok (.dup, 1) := by decide +kernel
theorem dX3_letFetch_53 : decode cX3_letFetch 53 = .ok (.getfield 152, 3) := by decide +kernel
theorem dX3_letFetch_56 : decode cX3_letFetch 56 = .ok (.iconst 1, 1) := by decide +kernel
theorem dX3_letFetch_57 : decode cX3_letFetch 57 = .ok (.iadd, 1) := by decide +kernel
theorem dX3_letFetch_58 : decode cX3_letFetch 58 = .ok (.putfield 152, 3) := by decide +kernel
theorem dX3_letFetch_61 : decode cX3_letFetch 61 = .ok (.bipush (-7), 2) := by decide +kernel
theorem dX3_letFetch_63 : decode cX3_letFetch 63 = .ok (.ireturn, 1) := by decide +kernel
theorem dX3_letFetch_64 : decode cX3_letFetch 64 = .ok (.aload_n 0, 1) := by decide +kernel
theorem dX3_letFetch_65 : decode cX3_letFetch 65 = .ok (.getfield 12, 3) := by decide +kernel
theorem dX3_letFetch_68 : decode cX3_letFetch 68 = .ok (.iload_n 2, 1) := by decide +kernel
theorem dX3_letFetch_69 : decode cX3_letFetch 69 = .ok (.iconst 0, 1) := by decide +kernel
theorem dX3_letFetch_70 : decode cX3_letFetch 70 = .ok (.invokevirtual 100, 3) := by decide +kernel
theorem dX3_letFetch_73 : decode cX3_letFetch 73 = .ok (.istore_n 3, 1) := by decide +kernel
theorem dX3_letFetch_74 : decode cX3_letFetch 74 = .ok (.aload_n 0, 1) := by decide +kernel
theorem dX3_letFetch_75 : decode cX3_letFetch 75 = .ok (.getfield 12, 3) := by decide +kernel
theorem dX3_letFetch_78 : decode cX3_letFetch 78 = .ok (.dup, 1) := by decide +kernel
theorem dX3_letFetch_79 : decode cX3_letFetch 79 = .ok (.getfield 149, 3) := by decide +kernel
theorem dX3_letFetch_82 : decode cX3_letFetch 82 = .ok (.iload_n 3, 1) := by decide +kernel
theorem dX3_letFetch_83 : decode cX3_letFetch 83 = .ok (.iadd, 1) := by decide +kernel
theorem dX3_letFetch_84 : decode cX3_letFetch 84 = .ok (.putfield 149, 3) := by decide +kernel
theorem dX3_letFetch_87 : decode cX3_letFetch 87 = .ok (.aload_n 0, 1) := by decide +kernel
theorem dX3_letFetch_88 : decode cX3_letFetch 88 = .ok (.getfield 12, 3) := by decide +kernel
theorem dX3_letFetch_91 : decode cX3_letFetch 91 = .ok (.getfield 132, 3) := by decide +kernel
theorem dX3_letFetch_94 : decode cX3_letFetch 94 = .ok (.aload_n 0, 1) := by decide +kernel
theorem dX3_letFetch_95 : decode cX3_letFetch 95 = .ok (.getfield 12, 3) := by decide +kernel
theorem dX3_letFetch_98 : decode cX3_letFetch 98 = .ok (.getfield 91, 3) := by decide +kernel
theorem dX3_letFetch_101 : decode cX3_letFetch 101 = .ok (.iload_n 2, 1) := by decide +kernel
theorem dX3_letFetch_102 : decode cX3_letFetch 102 = .ok (.iaload, 1) := by decide +kernel
theorem dX3_letFetch_103 : decode cX3_letFetch 103 = .ok (.dup2, 1) := by decide +kernel
theorem dX3_letFetch_104 : decode cX3_letFetch 104 = .ok (.iaload, 1) := by decide +kernel
theorem dX3_letFetch_105 : decode cX3_letFetch 105 = .ok (.iconst 1, 1) := by decide +kernel
theorem dX3_letFetch_106 : decode cX3_letFetch 106 = .ok (.iadd, 1) := by decide +kernel
theorem dX3_letFetch_107 : decode cX3_letFetch 107 = .ok (.iastore, 1) := by decide +kernel
theorem dX3_letFetch_108 : decode cX3_letFetch 108 = .ok (.aload_n 0, 1) := by decide +kernel
theorem dX3_letFetch_109 : decode cX3_letFetch 109 = .ok (.getfield 12, 3) := by decide +kernel
theorem dX3_letFetch_112 : decode cX3_letFetch 112 = .ok (.iload_n 2, 1) := by decide +kernel
theorem dX3_letFetch_113 : decode cX3_letFetch 113 = .ok (.invokevirtual 238, 3) := by decide +kernel
theorem dX3_letFetch_116 : decode cX3_letFetch 116 = .ok (.iload_n 3, 1) := by decide +kernel
theorem dX3_letFetch_117 : decode cX3_letFetch 117 = .ok (.ireturn, 1) := by decide +kernel
set_option maxRecDepth 20000 in
theorem ggX3_letRefuse_X1_placeWith : GoodIn wsX3_letRefuse wsX1_placeWith := goodIn_r _ [8, 9, 10, 11, 12, 13, 14, 15, 16, 17, 18, 19, 20, 21, 22, 23, 24, 55, 56, 57, 58, 59, 60, 61, 62, 63, 64, 65, 66, 67, 68] (by decide +kernel) (by decide +kernel)
set_option maxRecDepth 20000 in
theorem gX3_letRefuse_X1_placeWith : GoodIn wsX3_letRefuse (wsV RX3 88 RX1 yX1_placeWith wsX1_placeWith) := goodIn_app (goodIn_of _ (by decide +kernel)) ggX3_letRefuse_X1_placeWith
set_option maxRecDepth 20000 in
theorem ggX3_letRefuse_X3_refuseForNoParcel : GoodIn wsX3_letRefuse wsX3_refuseForNoParcel := goodIn_r _ [28, 1, 29, 10, 11, 12, 13, 14, 15, 16, 17, 18, 19, 20, 21, 22, 23, 24, 30, 31, 32, 7, 33, 34, 35, 36, 37, 38, 39, 40, 41, 42, 47, 48, 49, 50, 51, 52, 53, 54, 55, 56, 57, 58, 59, 60, 61, 62, 63, 64, 65, 66, 67, 68] (by decide +kernel) (by decide +kernel)
set_option maxRecDepth 20000 in
theorem gX3_letRefuse_X3_refuseForNoParcel : GoodIn wsX3_letRefuse (wsV RX3 242 RX3 yX3_refuseForNoParcel wsX3_refuseForNoParcel) := goodIn_app (goodIn_of _ (by decide +kernel)) ggX3_letRefuse_X3_refuseForNoParcel
set_option maxRecDepth 20000 in
theorem ggX3_letRefuse_X3_refuseFor : GoodIn wsX3_letRefuse wsX3_refuseFor := goodIn_r _ [40, 41, 42, 47, 48, 49, 50, 51, 52, 53, 54] (by decide +kernel) (by decide +kernel)
set_option maxRecDepth 20000 in
theorem gX3_letRefuse_X3_refuseFor : GoodIn wsX3_letRefuse (wsV RX3 235 RX3 yX3_refuseFor wsX3_refuseFor) := goodIn_app (goodIn_of _ (by decide +kernel)) ggX3_letRefuse_X3_refuseFor
set_option maxRecDepth 20000 in
theorem ggX3_letRefuse_X1_leave : GoodIn wsX3_letRefuse wsX1_leave := goodIn_r _ [46, 9, 34, 35, 23, 11, 24, 55, 56, 57, 58, 59, 60, 61, 62, 63, 64, 65, 66, 67, 68] (by decide +kernel) (by decide +kernel)
set_option maxRecDepth 20000 in
theorem gX3_letRefuse_X1_leave : GoodIn wsX3_letRefuse (wsV RX3 238 RX1 yX1_leave wsX1_leave) := goodIn_app (goodIn_of _ (by decide +kernel)) ggX3_letRefuse_X1_leave
theorem dX3_letRefuse_0 : decode cX3_letRefuse 0 = .ok (.aload_n 0, 1) := by decide +kernel
theorem dX3_letRefuse_1 : decode cX3_letRefuse 1 = .ok (.getfield 12, 3) := by decide +kernel
theorem dX3_letRefuse_4 : decode cX3_letRefuse 4 = .ok (.iload_n 1, 1) := by decide +kernel
theorem dX3_letRefuse_5 : decode cX3_letRefuse 5 = .ok (.invokevirtual 88, 3) := by decide +kernel
theorem dX3_letRefuse_8 : decode cX3_letRefuse 8 = .ok (.istore_n 2, 1) := by decide +kernel
theorem dX3_letRefuse_9 : decode cX3_letRefuse 9 = .ok (.iload_n 2, 1) := by decide +kernel
theorem dX3_letRefuse_10 : decode cX3_letRefuse 10 = .ok (.iconst (-1), 1) := by decide +kernel
theorem dX3_letRefuse_11 : decode cX3_letRefuse 11 = .ok (.if_icmp .ne 10, 3) := by decide +kernel
theorem dX3_letRefuse_14 : decode cX3_letRefuse 14 = .ok (.aload_n 0, 1) := by decide +kernel
theorem dX3_letRefuse_15 : decode cX3_letRefuse 15 = .ok (.iload_n 1, 1) := by decide +kernel
theorem dX3_letRefuse_16 : decode cX3_letRefuse 16 = .ok (.invokevirtual 242, 3) := by decide +kernel
theorem dX3_letRefuse_19 : decode cX3_letRefuse 19 = .ok (.iconst (-1), 1) := by decide +kernel
theorem dX3_letRefuse_20 : decode cX3_letRefuse 20 = .ok (.ireturn, 1) := by decide +kernel
theorem dX3_letRefuse_21 : decode cX3_letRefuse 21 = .ok (.aload_n 0, 1) := by decide +kernel
theorem dX3_letRefuse_22 : decode cX3_letRefuse 22 = .ok (.getfield 12, 3) := by decide +kernel
theorem dX3_letRefuse_25 : decode cX3_letRefuse 25 = .ok (.getfield 91, 3) := by decide +kernel
theorem dX3_letRefuse_28 : decode cX3_letRefuse 28 = .ok (.iload_n 2, 1) := by decide +kernel
theorem dX3_letRefuse_29 : decode cX3_letRefuse 29 = .ok (.iaload, 1) := by decide +kernel
theorem dX3_letRefuse_30 : decode cX3_letRefuse 30 = .ok (.istore_n 3, 1) := by decide +kernel
theorem dX3_letRefuse_31 : decode cX3_letRefuse 31 = .ok (.aload_n 0, 1) := by decide +kernel
theorem dX3_letRefuse_32 : decode cX3_letRefuse 32 = .ok (.getfield 12, 3) := by decide +kernel
theorem dX3_letRefuse_35 : decode cX3_letRefuse 35 = .ok (.getfield 126, 3) := by decide +kernel
theorem dX3_letRefuse_38 : decode cX3_letRefuse 38 = .ok (.iload_n 3, 1) := by decide +kernel
theorem dX3_letRefuse_39 : decode cX3_letRefuse 39 = .ok (.iaload, 1) := by decide +kernel
theorem dX3_letRefuse_40 : decode cX3_letRefuse 40 = .ok (.bipush 9, 2) := by decide +kernel
theorem dX3_letRefuse_42 : decode cX3_letRefuse 42 = .ok (.if_icmp .lt 13, 3) := by decide +kernel
theorem dX3_letRefuse_45 : decode cX3_letRefuse 45 = .ok (.aload_n 0, 1) := by decide +kernel
theorem dX3_letRefuse_46 : decode cX3_letRefuse 46 = .ok (.iconst 3, 1) := by decide +kernel
theorem dX3_letRefuse_47 : decode cX3_letRefuse 47 = .ok (.bipush (-6), 2) := by decide +kernel
theorem dX3_letRefuse_49 : decode cX3_letRefuse 49 = .ok (.invokevirtual 235, 3) := by decide +kernel
theorem dX3_letRefuse_52 : decode cX3_letRefuse 52 = .ok (.bipush (-3), 2) := by decide +kernel
theorem dX3_letRefuse_54 : decode cX3_letRefuse 54 = .ok (.ireturn, 1) := by decide +kernel
theorem dX3_letRefuse_55 : decode cX3_letRefuse 55 = .ok (.aload_n 0, 1) := by decide +kernel
theorem dX3_letRefuse_56 : decode cX3_letRefuse 56 = .ok (.getfield 12, 3) := by decide +kernel
theorem dX3_letRefuse_59 : decode cX3_letRefuse 59 = .ok (.iload_n 2, 1) := by decide +kernel
theorem dX3_letRefuse_60 : decode cX3_letRefuse 60 = .ok (.invokevirtual 238, 3) := by decide +kernel
theorem dX3_letRefuse_63 : decode cX3_letRefuse 63 = .ok (.aload_n 0, 1) := by decide +kernel
theorem dX3_letRefuse_64 : decode cX3_letRefuse 64 = .ok (.getfield 12, 3) := by decide +kernel
theorem dX3_letRefuse_67 : decode cX3_letRefuse 67 = .ok (.getfield 126, 3) := by decide +kernel
theorem dX3_letRefuse_70 : decode cX3_letRefuse 70 = .ok (.iload_n 3, 1) := by decide +kernel
theorem dX3_letRefuse_71 : decode cX3_letRefuse 71 = .ok (.dup2, 1) := by decide +kernel
theorem dX3_letRefuse_72 : decode cX3_letRefuse 72 = .ok (.iaload, 1) := by decide +kernel
theorem dX3_letRefuse_73 : decode cX3_letRefuse 73 = .ok (.iconst 1, 1) := by decide +kernel
theorem dX3_letRefuse_74 : decode cX3_letRefuse 74 = .ok (.iadd, 1) := by decide +kernel
theorem dX3_letRefuse_75 : decode cX3_letRefuse 75 = .ok (.iastore, 1) := by decide +kernel
theorem dX3_letRefuse_76 : decode cX3_letRefuse 76 = .ok (.aload_n 0, 1) := by decide +kernel
theorem dX3_letRefuse_77 : decode cX3_letRefuse 77 = .ok (.getfield 12, 3) := by decide +kernel
theorem dX3_letRefuse_80 : decode cX3_letRefuse 80 = .ok (.getfield 126, 3) := by decide +kernel
theorem dX3_letRefuse_83 : decode cX3_letRefuse 83 = .ok (.iload_n 3, 1) := by decide +kernel
theorem dX3_letRefuse_84 : decode cX3_letRefuse 84 = .ok (.iaload, 1) := by decide +kernel
theorem dX3_letRefuse_85 : decode cX3_letRefuse 85 = .ok (.ireturn, 1) := by decide +kernel
set_option maxRecDepth 20000 in
theorem ggX3_moveParcel_X1_placeWith : GoodIn wsX3_moveParcel wsX1_placeWith := goodIn_r _ [9, 10, 11, 12, 13, 14, 15, 16, 17, 18, 19, 20, 21, 22, 23, 24, 25, 95, 96, 97, 98, 99, 100, 101, 102, 103, 104, 105, 106, 107, 108] (by decide +kernel) (by decide +kernel)
set_option maxRecDepth 20000 in
theorem gX3_moveParcel_X1_placeWith : GoodIn wsX3_moveParcel (wsV RX3 88 RX1 yX1_placeWith wsX1_placeWith) := goodIn_app (goodIn_of _ (by decide +kernel)) ggX3_moveParcel_X1_placeWith
set_option maxRecDepth 20000 in
theorem ggX3_moveParcel_X3_refuseForNoParcel : GoodIn wsX3_moveParcel wsX3_refuseForNoParcel := goodIn_r _ [29, 1, 30, 11, 12, 13, 14, 15, 16, 17, 18, 19, 20, 21, 22, 23, 24, 25, 31, 32, 33, 8, 34, 35, 36, 37, 38, 39, 40, 41, 42, 43, 87, 88, 89, 90, 91, 92, 93, 94, 95, 96, 97, 98, 99, 100, 101, 102, 103, 104, 105, 106, 107, 108] (by decide +kernel) (by decide +kernel)
set_option maxRecDepth 20000 in
theorem gX3_moveParcel_X3_refuseForNoParcel : GoodIn wsX3_moveParcel (wsV RX3 242 RX3 yX3_refuseForNoParcel wsX3_refuseForNoParcel) := goodIn_app (goodIn_of _ (by decide +kernel)) ggX3_moveParcel_X3_refuseForNoParcel
set_option maxRecDepth 20000 in
theorem ggX3_moveParcel_X3_isWithin : GoodIn wsX3_moveParcel wsX3_isWithin := goodIn_r _ [16] (by decide +kernel) (by decide +kernel)
set_option maxRecDepth 20000 in
theorem gX3_moveParcel_X3_isWithin : GoodIn wsX3_moveParcel (va_wsS RX3 59 yX3_isWithin wsX3_isWithin) := goodIn_app (goodIn_of _ (by decide +kernel)) ggX3_moveParcel_X3_isWithin
set_option maxRecDepth 20000 in
theorem ggX3_moveParcel_X3_sizeOfShelf : GoodIn wsX3_moveParcel wsX3_sizeOfShelf := goodIn_r _ [46] (by decide +kernel) (by decide +kernel)
set_option maxRecDepth 20000 in
theorem gX3_moveParcel_X3_sizeOfShelf : GoodIn wsX3_moveParcel (va_wsS RX3 114 yX3_sizeOfShelf wsX3_sizeOfShelf) := goodIn_app (goodIn_of _ (by decide +kernel)) ggX3_moveParcel_X3_sizeOfShelf
set_option maxRecDepth 20000 in
theorem ggX3_moveParcel_X1_placeToGive : GoodIn wsX3_moveParcel wsX1_placeToGive := goodIn_r _ [50, 51, 52, 53, 8, 54, 10, 55, 56, 57, 58, 36, 59, 12, 60, 24, 25, 61, 32, 33, 34, 35, 37, 95, 96, 97, 98, 99, 100, 101, 102, 103, 104, 105, 106, 107, 108] (by decide +kernel) (by decide +kernel)
set_option maxRecDepth 20000 in
theorem gX3_moveParcel_X1_placeToGive : GoodIn wsX3_moveParcel (wsV RX3 180 RX1 yX1_placeToGive wsX1_placeToGive) := goodIn_app (goodIn_of _ (by decide +kernel)) ggX3_moveParcel_X1_placeToGive
set_option maxRecDepth 20000 in
theorem ggX3_moveParcel_X3_refuseForNoPlace : GoodIn wsX3_moveParcel wsX3_refuseForNoPlace := goodIn_r _ [65, 1, 66, 67, 68, 8, 69, 51, 52, 53, 54, 10, 38, 39, 40, 12, 41, 42, 43, 87, 88, 89, 90, 91, 92, 93, 94, 95, 96, 97, 98, 99, 100, 101, 102, 103, 104, 105, 106, 107, 108] (by decide +kernel) (by decide +kernel)
set_option maxRecDepth 20000 in
theorem gX3_moveParcel_X3_refuseForNoPlace : GoodIn wsX3_moveParcel (wsV RX3 227 RX3 yX3_refuseForNoPlace wsX3_refuseForNoPlace) := goodIn_app (goodIn_of _ (by decide +kernel)) ggX3_moveParcel_X3_refuseForNoPlace
set_option maxRecDepth 20000 in
theorem ggX3_moveParcel_X1_put : GoodIn wsX3_moveParcel wsX1_put := goodIn_r _ [73, 10, 36, 74, 75, 76, 59, 12, 60, 95, 96, 97, 98, 99, 100, 101, 102, 103, 104, 105, 106, 107, 108] (by decide +kernel) (by decide +kernel)
set_option maxRecDepth 20000 in
theorem gX3_moveParcel_X1_put : GoodIn wsX3_moveParcel (wsV RX3 231 RX1 yX1_put wsX1_put) := goodIn_app (goodIn_of _ (by decide +kernel)) ggX3_moveParcel_X1_put
set_option maxRecDepth 20000 in
theorem ggX3_moveParcel_X1_leave : GoodIn wsX3_moveParcel wsX1_leave := goodIn_r _ [80, 10, 35, 36, 24, 12, 25, 95, 96, 97, 98, 99, 100, 101, 102, 103, 104, 105, 106, 107, 108] (by decide +kernel) (by decide +kernel)
set_option maxRecDepth 20000 in
theorem gX3_moveParcel_X1_leave : GoodIn wsX3_moveParcel (wsV RX3 238 RX1 yX1_leave wsX1_leave) := goodIn_app (goodIn_of _ (by decide +kernel)) ggX3_moveParcel_X1_leave
set_option maxRecDepth 20000 in
theorem ggX3_moveParcel_X1_codeOn : GoodIn wsX3_moveParcel wsX1_codeOn := goodIn_r _ [84, 10, 85, 12, 86, 20, 21, 22, 95, 96, 97, 98, 99, 100, 101, 102, 103, 104, 105, 106, 107, 108] (by decide +kernel) (by decide +kernel)
set_option maxRecDepth 20000 in
theorem gX3_moveParcel_X1_codeOn : GoodIn wsX3_moveParcel (wsV RX3 111 RX1 yX1_codeOn wsX1_codeOn) := goodIn_app (goodIn_of _ (by decide +kernel)) ggX3_moveParcel_X1_codeOn
theorem dX3_moveParcel_0 : decode cX3_moveParcel 0 = .ok (.aload_n 0, 1) := by decide +kernel
theorem dX3_moveParcel_1 : decode cX3_moveParcel 1 = .ok (.getfield 12, 3) := by decide +kernel
theorem dX3_moveParcel_4 : decode cX3_moveParcel 4 = .ok (.iload_n 1, 1) := by decide +kernel
theorem dX3_moveParcel_5 : decode cX3_moveParcel 5 = .ok (.invokevirtual 88, 3) := by decide +kernel
theorem dX3_moveParcel_8 : decode cX3_moveParcel 8 = .ok (.istore_n 3, 1) := by decide +kernel
theorem dX3_moveParcel_9 : decode cX3_moveParcel 9 = .ok (.iload_n 3, 1) := by decide +kernel
theorem dX3_moveParcel_10 : decode cX3_moveParcel 10 = .ok (.iconst (-1), 1) := by decide +kernel
theorem dX3_moveParcel_11 : decode cX3_moveParcel 11 = .ok (.if_icmp .ne 10, 3) := by decide +kernel
theorem dX3_moveParcel_14 : decode cX3_moveParcel 14 = .ok (.aload_n 0, 1) := by decide +kernel
theorem dX3_moveParcel_15 : decode cX3_moveParcel 15 = .ok (.iload_n 1, 1) := by decide +kernel
theorem dX3_moveParcel_16 : decode cX3_moveParcel 16 = .ok (.invokevirtual 242, 3) := by decide +kernel
theorem dX3_moveParcel_19 : decode cX3_moveParcel 19 = .ok (.iconst (-1), 1) := by decide +kernel
theorem dX3_moveParcel_20 : decode cX3_moveParcel 20 = .ok (.ireturn, 1) := by decide +kernel
theorem dX3_moveParcel_21 : decode cX3_moveParcel 21 = .ok (.iload_n 2, 1) := by decide +kernel
theorem dX3_moveParcel_22 : decode cX3_moveParcel 22 = .ok (.iconst 0, 1) := by decide +kernel
theorem dX3_moveParcel_23 : decode cX3_moveParcel 23 = .ok (.iconst 5, 1) := by decide +kernel
theorem dX3_moveParcel_24 : decode cX3_moveParcel 24 = .ok (.invokestatic 59, 3) := by decide +kernel
theorem dX3_moveParcel_27 : decode cX3_moveParcel 27 = .ok (.ifCond .ne 5, 3) := by decide +kernel
theorem dX3_moveParcel_30 : decode cX3_moveParcel 30 = .ok (.iconst (-1), 1) := by decide +kernel
theorem dX3_moveParcel_31 : decode cX3_moveParcel 31 = .ok (.ireturn, 1) := by decide +kernel
theorem dX3_moveParcel_32 : decode cX3_moveParcel 32 = .ok (.iload_n 2, 1) := by decide +kernel
theorem dX3_moveParcel_33 : decode cX3_moveParcel 33 = .ok (.iload_n 3, 1) := by decide +kernel
theorem dX3_moveParcel_34 : decode cX3_moveParcel 34 = .ok (.bipush 8, 2) := by decide +kernel
theorem dX3_moveParcel_36 : decode cX3_moveParcel 36 = .ok (.idiv, 1) := by decide +kernel
theorem dX3_moveParcel_37 : decode cX3_moveParcel 37 = .ok (.if_icmp .eq 19, 3) := by decide +kernel
theorem dX3_moveParcel_40 : decode cX3_moveParcel 40 = .ok (.iload_n 2, 1) := by decide +kernel
theorem dX3_moveParcel_41 : decode cX3_moveParcel 41 = .ok (.invokestatic 114, 3) := by decide +kernel
theorem dX3_moveParcel_44 : decode cX3_moveParcel 44 = .ok (.aload_n 0, 1) := by decide +kernel
theorem dX3_moveParcel_45 : decode cX3_moveParcel 45 = .ok (.getfield 12, 3) := by decide +kernel
theorem dX3_moveParcel_48 : decode cX3_moveParcel 48 = .ok (.getfield 94, 3) := by decide +kernel
theorem dX3_moveParcel_51 : decode cX3_moveParcel 51 = .ok (.iload_n 3, 1) := by decide +kernel
theorem dX3_moveParcel_52 : decode cX3_moveParcel 52 = .ok (.iaload, 1) := by decide +kernel
theorem dX3_moveParcel_53 : decode cX3_moveParcel 53 = .ok (.if_icmp .ge 6, 3) := by decide +kernel
theorem dX3_moveParcel_56 : decode cX3_moveParcel 56 = .ok (.bipush (-2), 2) := by decide +kernel
theorem dX3_moveParcel_58 : decode cX3_moveParcel 58 = .ok (.ireturn, 1) := by decide +kernel
theorem dX3_moveParcel_59 : decode cX3_moveParcel 59 = .ok (.aload_n 0, 1) := by decide +kernel
theorem dX3_moveParcel_60 : decode cX3_moveParcel 60 = .ok (.getfield 12, 3) := by decide +kernel
theorem dX3_moveParcel_63 : decode cX3_moveParcel 63 = .ok (.iload_n 2, 1) := by decide +kernel
theorem dX3_moveParcel_64 : decode cX3_moveParcel 64 = .ok (.iload_n 2, 1) := by decide +kernel
theorem dX3_moveParcel_65 : decode cX3_moveParcel 65 = .ok (.invokevirtual 180, 3) := by decide +kernel
theorem dX3_moveParcel_68 : decode cX3_moveParcel 68 = .ok (.istore 4, 2) := by decide +kernel
theorem dX3_moveParcel_70 : decode cX3_moveParcel 70 = .ok (.iload 4, 2) := by decide +kernel
theorem dX3_moveParcel_72 : decode cX3_moveParcel 72 = .ok (.iconst (-1), 1) := by decide +kernel
theorem dX3_moveParcel_73 : decode cX3_moveParcel 73 = .ok (.if_icmp .ne 12, 3) := by decide +kernel
theorem dX3_moveParcel_76 : decode cX3_moveParcel 76 = .ok (.aload_n 0, 1) := by decide +kernel
theorem dX3_moveParcel_77 : decode cX3_moveParcel 77 = .ok (.iload_n 2, 1) := by decide +kernel
theorem dX3_moveParcel_78 : decode cX3_moveParcel 78 = .ok (.iload_n 2, 1) := by decide +kernel
theorem dX3_moveParcel_79 : decode cX3_moveParcel 79 = .ok (.invokevirtual 227, 3) := by decide +kernel
theorem dX3_moveParcel_82 : decode cX3_moveParcel 82 = .ok (.bipush (-4), 2) := by decide +kernel
theorem dX3_moveParcel_84 : decode cX3_moveParcel 84 = .ok (.ireturn, 1) := by decide +kernel
theorem dX3_moveParcel_85 : decode cX3_moveParcel 85 = .ok (.aload_n 0, 1) := by decide +kernel
theorem dX3_moveParcel_86 : decode cX3_moveParcel 86 = .ok (.getfield 12, 3) := by decide +kernel
theorem dX3_moveParcel_89 : decode cX3_moveParcel 89 = .ok (.iload 4, 2) := by decide +kernel
theorem dX3_moveParcel_91 : decode cX3_moveParcel 91 = .ok (.aload_n 0, 1) := by decide +kernel
theorem dX3_moveParcel_92 : decode cX3_moveParcel 92 = .ok (.getfield 12, 3) := by decide +kernel
theorem dX3_moveParcel_95 : decode cX3_moveParcel 95 = .ok (.getfield 91, 3) := by decide +kernel
theorem dX3_moveParcel_98 : decode cX3_moveParcel 98 = .ok (.iload_n 3, 1) := by decide +kernel
theorem dX3_moveParcel_99 : decode cX3_moveParcel 99 = .ok (.iaload, 1) := by decide +kernel
theorem dX3_moveParcel_100 : decode cX3_moveParcel 100 = .ok (.aload_n 0, 1) := by decide +kernel
theorem dX3_moveParcel_101 : decode cX3_moveParcel 101 = .ok (.getfield 12, 3) := by decide +kernel
theorem dX3_moveParcel_104 : decode cX3_moveParcel 104 = .ok (.getfield 94, 3) := by decide +kernel
theorem dX3_moveParcel_107 : decode cX3_moveParcel 107 = .ok (.iload_n 3, 1) := by decide +kernel
theorem dX3_moveParcel_108 : decode cX3_moveParcel 108 = .ok (.iaload, 1) := by decide +kernel
theorem dX3_moveParcel_109 : decode cX3_moveParcel 109 = .ok (.aload_n 0, 1) := by decide +kernel
theorem dX3_moveParcel_110 : decode cX3_moveParcel 110 = .ok (.getfield 12, 3) := by decide +kernel
theorem dX3_moveParcel_113 : decode cX3_moveParcel 113 = .ok (.getfield 97, 3) := by decide +kernel
theorem dX3_moveParcel_116 : decode cX3_moveParcel 116 = .ok (.iload_n 3, 1) := by decide +kernel
theorem dX3_moveParcel_117 : decode cX3_moveParcel 117 = .ok (.iaload, 1) := by decide +kernel
theorem dX3_moveParcel_118 : decode cX3_moveParcel 118 = .ok (.invokevirtual 231, 3) := by decide +kernel
theorem dX3_moveParcel_121 : decode cX3_moveParcel 121 = .ok (.aload_n 0, 1) := by decide +kernel
theorem dX3_moveParcel_122 : decode cX3_moveParcel 122 = .ok (.getfield 12, 3) := by decide +kernel
theorem dX3_moveParcel_125 : decode cX3_moveParcel 125 = .ok (.iload_n 3, 1) := by decide +kernel
theorem dX3_moveParcel_126 : decode cX3_moveParcel 126 = .ok (.invokevirtual 238, 3) := by decide +kernel
theorem dX3_moveParcel_129 : decode cX3_moveParcel 129 = .ok (.aload_n 0, 1) := by decide +kernel
theorem dX3_moveParcel_130 : decode cX3_moveParcel 130 = .ok (.getfield 12, 3) := by decide +kernel
theorem dX3_moveParcel_133 : decode cX3_moveParcel 133 = .ok (.iload 4, 2) := by decide +kernel
theorem dX3_moveParcel_135 : decode cX3_moveParcel 135 = .ok (.invokevirtual 111, 3) := by decide +kernel
theorem dX3_moveParcel_138 : decode cX3_moveParcel 138 = .ok (.ireturn, 1) := by decide +kernel
set_option maxRecDepth 20000 in
theorem ggX3_letPass_X3_isWithin : GoodIn wsX3_letPass wsX3_isWithin := goodIn_r _ [6] (by decide +kernel) (by decide +kernel)
set_option maxRecDepth 20000 in
theorem gX3_letPass_X3_isWithin : GoodIn wsX3_letPass (va_wsS RX3 59 yX3_isWithin wsX3_isWithin) := goodIn_app (goodIn_of _ (by decide +kernel)) ggX3_letPass_X3_isWithin
set_option maxRecDepth 20000 in
theorem ggX3_letPass_X1_beginDay : GoodIn wsX3_letPass wsX1_beginDay := goodIn_r _ [11, 12, 13, 14, 15, 16, 10, 17, 18, 19, 20, 21, 22, 23, 24, 25, 26, 27, 28, 29, 30, 31, 32, 33, 34, 35, 36, 37, 38, 39, 40, 41, 42, 5, 43, 52, 53, 54, 55, 56, 57, 58, 59, 60, 61, 62, 63, 64, 65] (by decide +kernel) (by decide +kernel)
set_option maxRecDepth 20000 in
theorem gX3_letPass_X1_beginDay : GoodIn wsX3_letPass (wsV RX3 186 RX1 yX1_beginDay wsX1_beginDay) := goodIn_app (goodIn_of _ (by decide +kernel)) ggX3_letPass_X1_beginDay
theorem dX3_letPass_0 : decode cX3_letPass 0 = .ok (.iload_n 1, 1) := by decide +kernel
theorem dX3_letPass_1 : decode cX3_letPass 1 = .ok (.iconst 1, 1) := by decide +kernel
theorem dX3_letPass_2 : decode cX3_letPass 2 = .ok (.bipush 30, 2) := by decide +kernel
theorem dX3_letPass_4 : decode cX3_letPass 4 = .ok (.invokestatic 59, 3) := by decide +kernel
theorem dX3_letPass_7 : decode cX3_letPass 7 = .ok (.ifCond .ne 6, 3) := by decide +kernel
theorem dX3_letPass_10 : decode cX3_letPass 10 = .ok (.bipush (-2), 2) := by decide +kernel
theorem dX3_letPass_12 : decode cX3_letPass 12 = .ok (.ireturn, 1) := by decide +kernel
theorem dX3_letPass_13 : decode cX3_letPass 13 = .ok (.aload_n 0, 1) := by decide +kernel
theorem dX3_letPass_14 : decode cX3_letPass 14 = .ok (.getfield 12, 3) := by decide +kernel
theorem dX3_letPass_17 : decode cX3_letPass 17 = .ok (.getfield 85, 3) := by decide +kernel
theorem dX3_letPass_20 : decode cX3_letPass 20 = .ok (.sipush 9999, 3) := by decide +kernel
theorem dX3_letPass_23 : decode cX3_letPass 23 = .ok (.iload_n 1, 1) := by decide +kernel
theorem dX3_letPass_24 : decode cX3_letPass 24 = .ok (.isub, 1) := by decide +kernel
theorem dX3_letPass_25 : decode cX3_letPass 25 = .ok (.if_icmp .le 6, 3) := by decide +kernel
theorem dX3_letPass_28 : decode cX3_letPass 28 = .ok (.bipush (-4), 2) := by decide +kernel
theorem dX3_letPass_30 : decode cX3_letPass 30 = .ok (.ireturn, 1) := by decide +kernel
theorem dX3_letPass_31 : decode cX3_letPass 31 = .ok (.iconst 0, 1) := by decide +kernel
theorem dX3_letPass_32 : decode cX3_letPass 32 = .ok (.istore_n 2, 1) := by decide +kernel
theorem dX3_letPass_33 : decode cX3_letPass 33 = .ok (.iconst 0, 1) := by decide +kernel
theorem dX3_letPass_34 : decode cX3_letPass 34 = .ok (.istore_n 3, 1) := by decide +kernel
theorem dX3_letPass_35 : decode cX3_letPass 35 = .ok (.iload_n 3, 1) := by decide +kernel
theorem dX3_letPass_36 : decode cX3_letPass 36 = .ok (.iload_n 1, 1) := by decide +kernel
theorem dX3_letPass_37 : decode cX3_letPass 37 = .ok (.if_icmp .ge 19, 3) := by decide +kernel
theorem dX3_letPass_40 : decode cX3_letPass 40 = .ok (.iload_n 2, 1) := by decide +kernel
theorem dX3_letPass_41 : decode cX3_letPass 41 = .ok (.aload_n 0, 1) := by decide +kernel
theorem dX3_letPass_42 : decode cX3_letPass 42 = .ok (.getfield 12, 3) := by decide +kernel
theorem dX3_letPass_45 : decode cX3_letPass 45 = .ok (.invokevirtual 186, 3) := by decide +kernel
theorem dX3_letPass_48 : decode cX3_letPass 48 = .ok (.iadd, 1) := by decide +kernel
theorem dX3_letPass_49 : decode cX3_letPass 49 = .ok (.istore_n 2, 1) := by decide +kernel
theorem dX3_letPass_50 : decode cX3_letPass 50 = .ok (.iinc 3 1, 3) := by decide +kernel
theorem dX3_letPass_53 : decode cX3_letPass 53 = .ok (.goto (-18), 3) := by decide +kernel
theorem dX3_letPass_56 : decode cX3_letPass 56 = .ok (.iload_n 2, 1) := by decide +kernel
theorem dX3_letPass_57 : decode cX3_letPass 57 = .ok (.ireturn, 1) := by decide +kernel
set_option maxRecDepth 20000 in
theorem ggX3_callCourier_X3_isWithin : GoodIn wsX3_callCourier wsX3_isWithin := goodIn_r _ [6] (by decide +kernel) (by decide +kernel)
set_option maxRecDepth 20000 in
theorem gX3_callCourier_X3_isWithin : GoodIn wsX3_callCourier (va_wsS RX3 59 yX3_isWithin wsX3_isWithin) := goodIn_app (goodIn_of _ (by decide +kernel)) ggX3_callCourier_X3_isWithin
set_option maxRecDepth 20000 in
theorem ggX3_callCourier_X1_emptyBin : GoodIn wsX3_callCourier wsX1_emptyBin := goodIn_r _ [11, 12, 13, 14, 15, 24, 25, 26, 27, 28, 29, 30, 31, 32, 33, 34, 35, 36, 37] (by decide +kernel) (by decide +kernel)
set_option maxRecDepth 20000 in
theorem gX3_callCourier_X1_emptyBin : GoodIn wsX3_callCourier (wsV RX3 245 RX1 yX1_emptyBin wsX1_emptyBin) := goodIn_app (goodIn_of _ (by decide +kernel)) ggX3_callCourier_X1_emptyBin
theorem dX3_callCourier_0 : decode cX3_callCourier 0 = .ok (.iload_n 1, 1) := by decide +kernel
theorem dX3_callCourier_1 : decode cX3_callCourier 1 = .ok (.iconst 0, 1) := by decide +kernel
theorem dX3_callCourier_2 : decode cX3_callCourier 2 = .ok (.bipush 9, 2) := by decide +kernel
theorem dX3_callCourier_4 : decode cX3_callCourier 4 = .ok (.invokestatic 59, 3) := by decide +kernel
theorem dX3_callCourier_7 : decode cX3_callCourier 7 = .ok (.ifCond .ne 5, 3) := by decide +kernel
theorem dX3_callCourier_10 : decode cX3_callCourier 10 = .ok (.iconst (-1), 1) := by decide +kernel
theorem dX3_callCourier_11 : decode cX3_callCourier 11 = .ok (.ireturn, 1) := by decide +kernel
theorem dX3_callCourier_12 : decode cX3_callCourier 12 = .ok (.aload_n 0, 1) := by decide +kernel
theorem dX3_callCourier_13 : decode cX3_callCourier 13 = .ok (.getfield 12, 3) := by decide +kernel
theorem dX3_callCourier_16 : decode cX3_callCourier 16 = .ok (.getfield 126, 3) := by decide +kernel
theorem dX3_callCourier_19 : decode cX3_callCourier 19 = .ok (.iload_n 1, 1) := by decide +kernel
theorem dX3_callCourier_20 : decode cX3_callCourier 20 = .ok (.iaload, 1) := by decide +kernel
theorem dX3_callCourier_21 : decode cX3_callCourier 21 = .ok (.ifCond .ne 6, 3) := by decide +kernel
theorem dX3_callCourier_24 : decode cX3_callCourier 24 = .ok (.bipush (-3), 2) := by decide +kernel
theorem dX3_callCourier_26 : decode cX3_callCourier 26 = .ok (.ireturn, 1) := by decide +kernel
theorem dX3_callCourier_27 : decode cX3_callCourier 27 = .ok (.aload_n 0, 1) := by decide +kernel
theorem dX3_callCourier_28 : decode cX3_callCourier 28 = .ok (.getfield 12, 3) := by decide +kernel
theorem dX3_callCourier_31 : decode cX3_callCourier 31 = .ok (.iload_n 1, 1) := by decide +kernel
theorem dX3_callCourier_32 : decode cX3_callCourier 32 = .ok (.bipush 6, 2) := by decide +kernel
theorem dX3_callCourier_34 : decode cX3_callCourier 34 = .ok (.invokevirtual 245, 3) := by decide +kernel
theorem dX3_callCourier_37 : decode cX3_callCourier 37 = .ok (.ireturn, 1) := by decide +kernel
set_option maxRecDepth 20000 in
theorem ggX3_recorded_X3_isError : GoodIn wsX3_recorded wsX3_isError := goodIn_r _ [5, 6, 7, 4, 8] (by decide +kernel) (by decide +kernel)
set_option maxRecDepth 20000 in
theorem gX3_recorded_X3_isError : GoodIn wsX3_recorded (va_wsS RX3 211 yX3_isError wsX3_isError) := goodIn_app (goodIn_of _ (by decide +kernel)) ggX3_recorded_X3_isError
set_option maxRecDepth 20000 in
theorem ggX3_recorded_X0_keepPrepared : GoodIn wsX3_recorded wsX0_keepPrepared := goodIn_r _ [13, 14, 15, 24, 25, 26] (by decide +kernel) (by decide +kernel)
set_option maxRecDepth 20000 in
theorem gX3_recorded_X0_keepPrepared : GoodIn wsX3_recorded (wsV RX3 261 RX0 yX0_keepPrepared wsX0_keepPrepared) := goodIn_app (goodIn_of _ (by decide +kernel)) ggX3_recorded_X0_keepPrepared
theorem dX3_recorded_0 : decode cX3_recorded 0 = .ok (.iload_n 1, 1) := by decide +kernel
theorem dX3_recorded_1 : decode cX3_recorded 1 = .ok (.invokestatic 211, 3) := by decide +kernel
theorem dX3_recorded_4 : decode cX3_recorded 4 = .ok (.ifCond .ne 10, 3) := by decide +kernel
theorem dX3_recorded_7 : decode cX3_recorded 7 = .ok (.aload_n 0, 1) := by decide +kernel
theorem dX3_recorded_8 : decode cX3_recorded 8 = .ok (.getfield 25, 3) := by decide +kernel
theorem dX3_recorded_11 : decode cX3_recorded 11 = .ok (.invokevirtual 261, 3) := by decide +kernel
theorem dX3_recorded_14 : decode cX3_recorded 14 = .ok (.iload_n 1, 1) := by decide +kernel
theorem dX3_recorded_15 : decode cX3_recorded 15 = .ok (.ireturn, 1) := by decide +kernel
set_option maxRecDepth 20000 in
theorem ggX3_isError_X3_isWithin : GoodIn wsX3_isError wsX3_isWithin := goodIn_r _ [4] (by decide +kernel) (by decide +kernel)
set_option maxRecDepth 20000 in
theorem gX3_isError_X3_isWithin : GoodIn wsX3_isError (va_wsS RX3 59 yX3_isWithin wsX3_isWithin) := goodIn_app (goodIn_of _ (by decide +kernel)) ggX3_isError_X3_isWithin
theorem dX3_isError_0 : decode cX3_isError 0 = .ok (.iload_n 0, 1) := by decide +kernel
theorem dX3_isError_1 : decode cX3_isError 1 = .ok (.bipush (-5), 2) := by decide +kernel
theorem dX3_isError_3 : decode cX3_isError 3 = .ok (.iconst (-1), 1) := by decide +kernel
theorem dX3_isError_4 : decode cX3_isError 4 = .ok (.invokestatic 59, 3) := by decide +kernel
theorem dX3_isError_7 : decode cX3_isError 7 = .ok (.ireturn, 1) := by decide +kernel
theorem dX3_refuseFor_0 : decode cX3_refuseFor 0 = .ok (.aload_n 0, 1) := by decide +kernel
theorem dX3_refuseFor_1 : decode cX3_refuseFor 1 = .ok (.iload_n 1, 1) := by decide +kernel
theorem dX3_refuseFor_2 : decode cX3_refuseFor 2 = .ok (.putfield 40, 3) := by decide +kernel
theorem dX3_refuseFor_5 : decode cX3_refuseFor 5 = .ok (.aload_n 0, 1) := by decide +kernel
theorem dX3_refuseFor_6 : decode cX3_refuseFor 6 = .ok (.iload_n 2, 1) := by decide +kernel
theorem dX3_refuseFor_7 : decode cX3_refuseFor 7 = .ok (.putfield 44, 3) := by decide +kernel
theorem dX3_refuseFor_10 : decode cX3_refuseFor 10 = .ok (.return_, 1) := by decide +kernel
set_option maxRecDepth 20000 in
theorem ggX3_refuseForNoPlace_X1_hasFreePlace : GoodIn wsX3_refuseForNoPlace wsX1_hasFreePlace := goodIn_r _ [6, 7, 8, 9, 5, 10, 11, 27, 28, 29, 30, 31, 32, 33, 34, 35, 36, 37, 38, 39, 40] (by decide +kernel) (by decide +kernel)
set_option maxRecDepth 20000 in
theorem gX3_refuseForNoPlace_X1_hasFreePlace : GoodIn wsX3_refuseForNoPlace (wsV RX3 264 RX1 yX1_hasFreePlace wsX1_hasFreePlace) := goodIn_app (goodIn_of _ (by decide +kernel)) ggX3_refuseForNoPlace_X1_hasFreePlace
set_option maxRecDepth 20000 in
theorem ggX3_refuseForNoPlace_X3_refuseFor : GoodIn wsX3_refuseForNoPlace wsX3_refuseFor := goodIn_r _ [16, 17, 18, 19, 20, 21, 22, 23, 24, 25, 26] (by decide +kernel) (by decide +kernel)
set_option maxRecDepth 20000 in
theorem gX3_refuseForNoPlace_X3_refuseFor : GoodIn wsX3_refuseForNoPlace (wsV RX3 235 RX3 yX3_refuseFor wsX3_refuseFor) := goodIn_app (goodIn_of _ (by decide +kernel)) ggX3_refuseForNoPlace_X3_refuseFor
theorem dX3_refuseForNoPlace_0 : decode cX3_refuseForNoPlace 0 = .ok (.aload_n 0, 1) := by decide +kernel
theorem dX3_refuseForNoPlace_1 : decode cX3_refuseForNoPlace 1 = .ok (.getfield 12, 3) := by decide +kernel
theorem dX3_refuseForNoPlace_4 : decode cX3_refuseForNoPlace 4 = .ok (.iload_n 1, 1) := by decide +kernel
theorem dX3_refuseForNoPlace_5 : decode cX3_refuseForNoPlace 5 = .ok (.iload_n 2, 1) := by decide +kernel
theorem dX3_refuseForNoPlace_6 : decode cX3_refuseForNoPlace 6 = .ok (.invokevirtual 264, 3) := by decide +kernel
theorem dX3_refuseForNoPlace_9 : decode cX3_refuseForNoPlace 9 = .ok (.istore_n 3, 1) := by decide +kernel
theorem dX3_refuseForNoPlace_10 : decode cX3_refuseForNoPlace 10 = .ok (.aload_n 0, 1) := by decide +kernel
theorem dX3_refuseForNoPlace_11 : decode cX3_refuseForNoPlace 11 = .ok (.iconst 1, 1) := by decide +kernel
theorem dX3_refuseForNoPlace_12 : decode cX3_refuseForNoPlace 12 = .ok (.iload_n 3, 1) := by decide +kernel
theorem dX3_refuseForNoPlace_13 : decode cX3_refuseForNoPlace 13 = .ok (.ifCond .eq 7, 3) := by decide +kernel
theorem dX3_refuseForNoPlace_16 : decode cX3_refuseForNoPlace 16 = .ok (.iconst 5, 1) := by decide +kernel
theorem dX3_refuseForNoPlace_17 : decode cX3_refuseForNoPlace 17 = .ok (.goto 5, 3) := by decide +kernel
theorem dX3_refuseForNoPlace_20 : decode cX3_refuseForNoPlace 20 = .ok (.bipush 6, 2) := by decide +kernel
theorem dX3_refuseForNoPlace_22 : decode cX3_refuseForNoPlace 22 = .ok (.invokevirtual 235, 3) := by decide +kernel
theorem dX3_refuseForNoPlace_25 : decode cX3_refuseForNoPlace 25 = .ok (.return_, 1) := by decide +kernel
set_option maxRecDepth 20000 in
theorem ggX3_refuseForNoParcel_X3_indexOfCode : GoodIn wsX3_refuseForNoParcel wsX3_indexOfCode := goodIn_r _ [5, 6, 7, 4, 8, 9, 10, 11, 12, 13, 14, 15, 16, 17] (by decide +kernel) (by decide +kernel)
set_option maxRecDepth 20000 in
theorem gX3_refuseForNoParcel_X3_indexOfCode : GoodIn wsX3_refuseForNoParcel (va_wsS RX3 162 yX3_indexOfCode wsX3_indexOfCode) := goodIn_app (goodIn_of _ (by decide +kernel)) ggX3_refuseForNoParcel_X3_indexOfCode
set_option maxRecDepth 20000 in
theorem ggX3_refuseForNoParcel_X1_rests : GoodIn wsX3_refuseForNoParcel wsX1_rests := goodIn_r _ [22, 23, 24, 25, 40, 41, 42, 43, 44, 45, 46, 47, 48, 49, 50, 51, 52, 53] (by decide +kernel) (by decide +kernel)
set_option maxRecDepth 20000 in
theorem gX3_refuseForNoParcel_X1_rests : GoodIn wsX3_refuseForNoParcel (wsV RX3 171 RX1 yX1_rests wsX1_rests) := goodIn_app (goodIn_of _ (by decide +kernel)) ggX3_refuseForNoParcel_X1_rests
set_option maxRecDepth 20000 in
theorem ggX3_refuseForNoParcel_X3_refuseFor : GoodIn wsX3_refuseForNoParcel wsX3_refuseFor := goodIn_r _ [29, 30, 31, 32, 33, 34, 35, 36, 37, 38, 39] (by decide +kernel) (by decide +kernel)
set_option maxRecDepth 20000 in
theorem gX3_refuseForNoParcel_X3_refuseFor : GoodIn wsX3_refuseForNoParcel (wsV RX3 235 RX3 yX3_refuseFor wsX3_refuseFor) := goodIn_app (goodIn_of _ (by decide +kernel)) ggX3_refuseForNoParcel_X3_refuseFor
theorem dX3_refuseForNoParcel_0 : decode cX3_refuseForNoParcel 0 = .ok (.iload_n 1, 1) := by decide +kernel
theorem dX3_refuseForNoParcel_1 : decode cX3_refuseForNoParcel 1 = .ok (.invokestatic 162, 3) := by decide +kernel
theorem dX3_refuseForNoParcel_4 : decode cX3_refuseForNoParcel 4 = .ok (.istore_n 2, 1) := by decide +kernel
theorem dX3_refuseForNoParcel_5 : decode cX3_refuseForNoParcel 5 = .ok (.iload_n 2, 1) := by decide +kernel
theorem dX3_refuseForNoParcel_6 : decode cX3_refuseForNoParcel 6 = .ok (.ifCond .lt 18, 3) := by decide +kernel
theorem dX3_refuseForNoParcel_9 : decode cX3_refuseForNoParcel 9 = .ok (.aload_n 0, 1) := by decide +kernel
theorem dX3_refuseForNoParcel_10 : decode cX3_refuseForNoParcel 10 = .ok (.getfield 12, 3) := by decide +kernel
theorem dX3_refuseForNoParcel_13 : decode cX3_refuseForNoParcel 13 = .ok (.iload_n 2, 1) := by decide +kernel
theorem dX3_refuseForNoParcel_14 : decode cX3_refuseForNoParcel 14 = .ok (.invokevirtual 171, 3) := by decide +kernel
theorem dX3_refuseForNoParcel_17 : decode cX3_refuseForNoParcel 17 = .ok (.ifCond .eq 7, 3) := by decide +kernel
theorem dX3_refuseForNoParcel_20 : decode cX3_refuseForNoParcel 20 = .ok (.iconst 1, 1) := by decide +kernel
theorem dX3_refuseForNoParcel_21 : decode cX3_refuseForNoParcel 21 = .ok (.goto 4, 3) := by decide +kernel
theorem dX3_refuseForNoParcel_24 : decode cX3_refuseForNoParcel 24 = .ok (.iconst 0, 1) := by decide +kernel
theorem dX3_refuseForNoParcel_25 : decode cX3_refuseForNoParcel 25 = .ok (.istore_n 3, 1) := by decide +kernel
theorem dX3_refuseForNoParcel_26 : decode cX3_refuseForNoParcel 26 = .ok (.aload_n 0, 1) := by decide +kernel
theorem dX3_refuseForNoParcel_27 : decode cX3_refuseForNoParcel 27 = .ok (.iconst 4, 1) := by decide +kernel
theorem dX3_refuseForNoParcel_28 : decode cX3_refuseForNoParcel 28 = .ok (.iload_n 3, 1) := by decide +kernel
theorem dX3_refuseForNoParcel_29 : decode cX3_refuseForNoParcel 29 = .ok (.ifCond .eq 7, 3) := by decide +kernel
theorem dX3_refuseForNoParcel_32 : decode cX3_refuseForNoParcel 32 = .ok (.iconst 5, 1) := by decide +kernel
theorem dX3_refuseForNoParcel_33 : decode cX3_refuseForNoParcel 33 = .ok (.goto 5, 3) := by decide +kernel
theorem dX3_refuseForNoParcel_36 : decode cX3_refuseForNoParcel 36 = .ok (.bipush (-6), 2) := by decide +kernel
theorem dX3_refuseForNoParcel_38 : decode cX3_refuseForNoParcel 38 = .ok (.invokevirtual 235, 3) := by decide +kernel
theorem dX3_refuseForNoParcel_41 : decode cX3_refuseForNoParcel 41 = .ok (.return_, 1) := by decide +kernel
theorem dX3_isWithin_0 : decode cX3_isWithin 0 = .ok (.iload_n 0, 1) := by decide +kernel
theorem dX3_isWithin_1 : decode cX3_isWithin 1 = .ok (.iload_n 1, 1) := by decide +kernel
theorem dX3_isWithin_2 : decode cX3_isWithin 2 = .ok (.if_icmp .lt 12, 3) := by decide +kernel
theorem dX3_isWithin_5 : decode cX3_isWithin 5 = .ok (.iload_n 0, 1) := by decide +kernel
theorem dX3_isWithin_6 : decode cX3_isWithin 6 = .ok (.iload_n 2, 1) := by decide +kernel
theorem dX3_isWithin_7 : decode cX3_isWithin 7 = .ok (.if_icmp .gt 7, 3) := by decide +kernel
theorem dX3_isWithin_10 : decode cX3_isWithin 10 = .ok (.iconst 1, 1) := by decide +kernel
theorem dX3_isWithin_11 : decode cX3_isWithin 11 = .ok (.goto 4, 3) := by decide +kernel
theorem dX3_isWithin_14 : decode cX3_isWithin 14 = .ok (.iconst 0, 1) := by decide +kernel
theorem dX3_isWithin_15 : decode cX3_isWithin 15 = .ok (.ireturn, 1) := by decide +kernel
theorem dX3_sum_0 : decode cX3_sum 0 = .ok (.iconst 0, 1) := by decide +kernel
theorem dX3_sum_1 : decode cX3_sum 1 = .ok (.istore_n 1, 1) := by decide +kernel
theorem dX3_sum_2 : decode cX3_sum 2 = .ok (.aload_n 0, 1) := by decide +kernel
theorem dX3_sum_3 : decode cX3_sum 3 = .ok (.astore_n 2, 1) := by decide +kernel
theorem dX3_sum_4 : decode cX3_sum 4 = .ok (.aload_n 2, 1) := by decide +kernel
theorem dX3_sum_5 : decode cX3_sum 5 = .ok (.arraylength, 1) := by decide +kernel
theorem dX3_sum_6 : decode cX3_sum 6 = .ok (.istore_n 3, 1) := by decide +kernel
theorem dX3_sum_7 : decode cX3_sum 7 = .ok (.iconst 0, 1) := by decide +kernel
theorem dX3_sum_8 : decode cX3_sum 8 = .ok (.istore 4, 2) := by decide +kernel
theorem dX3_sum_10 : decode cX3_sum 10 = .ok (.iload 4, 2) := by decide +kernel
theorem dX3_sum_12 : decode cX3_sum 12 = .ok (.iload_n 3, 1) := by decide +kernel
theorem dX3_sum_13 : decode cX3_sum 13 = .ok (.if_icmp .ge 20, 3) := by decide +kernel
theorem dX3_sum_16 : decode cX3_sum 16 = .ok (.aload_n 2, 1) := by decide +kernel
theorem dX3_sum_17 : decode cX3_sum 17 = .ok (.iload 4, 2) := by decide +kernel
theorem dX3_sum_19 : decode cX3_sum 19 = .ok (.iaload, 1) := by decide +kernel
theorem dX3_sum_20 : decode cX3_sum 20 = .ok (.istore 5, 2) := by decide +kernel
theorem dX3_sum_22 : decode cX3_sum 22 = .ok (.iload_n 1, 1) := by decide +kernel
theorem dX3_sum_23 : decode cX3_sum 23 = .ok (.iload 5, 2) := by decide +kernel
theorem dX3_sum_25 : decode cX3_sum 25 = .ok (.iadd, 1) := by decide +kernel
theorem dX3_sum_26 : decode cX3_sum 26 = .ok (.istore_n 1, 1) := by decide +kernel
theorem dX3_sum_27 : decode cX3_sum 27 = .ok (.iinc 4 1, 3) := by decide +kernel
theorem dX3_sum_30 : decode cX3_sum 30 = .ok (.goto (-20), 3) := by decide +kernel
theorem dX3_sum_33 : decode cX3_sum 33 = .ok (.iload_n 1, 1) := by decide +kernel
theorem dX3_sum_34 : decode cX3_sum 34 = .ok (.ireturn, 1) := by decide +kernel
set_option maxRecDepth 20000 in
theorem ggX3_isPlace_X3_isWithin : GoodIn wsX3_isPlace wsX3_isWithin := goodIn_r _ [4] (by decide +kernel) (by decide +kernel)
