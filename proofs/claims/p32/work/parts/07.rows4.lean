theorem dL_shop_599 : decode cL_shop 599 = .ok (.aload 10, 2) := by decide +kernel
theorem dL_shop_601 : decode cL_shop 601 = .ok (.iconst 5, 1) := by decide +kernel
theorem dL_shop_602 : decode cL_shop 602 = .ok (.iaload, 1) := by decide +kernel
theorem dL_shop_603 : decode cL_shop 603 = .ok (.if_icmp .ne 144, 3) := by decide +kernel
theorem dL_shop_606 : decode cL_shop 606 = .ok (.aload_n 0, 1) := by decide +kernel
theorem dL_shop_607 : decode cL_shop 607 = .ok (.iconst 0, 1) := by decide +kernel
theorem dL_shop_608 : decode cL_shop 608 = .ok (.invokevirtual 74, 3) := by decide +kernel
theorem dL_shop_611 : decode cL_shop 611 = .ok (.iload 11, 2) := by decide +kernel
theorem dL_shop_613 : decode cL_shop 613 = .ok (.if_icmp .ne 134, 3) := by decide +kernel
theorem dL_shop_616 : decode cL_shop 616 = .ok (.aload_n 0, 1) := by decide +kernel
theorem dL_shop_617 : decode cL_shop 617 = .ok (.iconst 1, 1) := by decide +kernel
theorem dL_shop_618 : decode cL_shop 618 = .ok (.invokevirtual 74, 3) := by decide +kernel
theorem dL_shop_621 : decode cL_shop 621 = .ok (.aload 6, 2) := by decide +kernel
theorem dL_shop_623 : decode cL_shop 623 = .ok (.invokestatic 77, 3) := by decide +kernel
theorem dL_shop_626 : decode cL_shop 626 = .ok (.if_icmp .ne 121, 3) := by decide +kernel
theorem dL_shop_629 : decode cL_shop 629 = .ok (.aload_n 0, 1) := by decide +kernel
theorem dL_shop_630 : decode cL_shop 630 = .ok (.iconst 2, 1) := by decide +kernel
theorem dL_shop_631 : decode cL_shop 631 = .ok (.invokevirtual 74, 3) := by decide +kernel
theorem dL_shop_634 : decode cL_shop 634 = .ok (.aload 10, 2) := by decide +kernel
theorem dL_shop_636 : decode cL_shop 636 = .ok (.bipush 7, 2) := by decide +kernel
theorem dL_shop_638 : decode cL_shop 638 = .ok (.iaload, 1) := by decide +kernel
theorem dL_shop_639 : decode cL_shop 639 = .ok (.if_icmp .ne 108, 3) := by decide +kernel
theorem dL_shop_642 : decode cL_shop 642 = .ok (.aload_n 0, 1) := by decide +kernel
theorem dL_shop_643 : decode cL_shop 643 = .ok (.iconst 3, 1) := by decide +kernel
theorem dL_shop_644 : decode cL_shop 644 = .ok (.invokevirtual 74, 3) := by decide +kernel
theorem dL_shop_647 : decode cL_shop 647 = .ok (.aload 8, 2) := by decide +kernel
theorem dL_shop_649 : decode cL_shop 649 = .ok (.invokestatic 77, 3) := by decide +kernel
theorem dL_shop_652 : decode cL_shop 652 = .ok (.if_icmp .ne 95, 3) := by decide +kernel
theorem dL_shop_655 : decode cL_shop 655 = .ok (.aload_n 0, 1) := by decide +kernel
theorem dL_shop_656 : decode cL_shop 656 = .ok (.iconst 4, 1) := by decide +kernel
theorem dL_shop_657 : decode cL_shop 657 = .ok (.invokevirtual 74, 3) := by decide +kernel
theorem dL_shop_660 : decode cL_shop 660 = .ok (.aload 9, 2) := by decide +kernel
theorem dL_shop_662 : decode cL_shop 662 = .ok (.invokestatic 77, 3) := by decide +kernel
theorem dL_shop_665 : decode cL_shop 665 = .ok (.if_icmp .ne 82, 3) := by decide +kernel
theorem dL_shop_668 : decode cL_shop 668 = .ok (.aload_n 0, 1) := by decide +kernel
theorem dL_shop_669 : decode cL_shop 669 = .ok (.iconst 5, 1) := by decide +kernel
theorem dL_shop_670 : decode cL_shop 670 = .ok (.invokevirtual 74, 3) := by decide +kernel
theorem dL_shop_673 : decode cL_shop 673 = .ok (.aload 10, 2) := by decide +kernel
theorem dL_shop_675 : decode cL_shop 675 = .ok (.bipush 9, 2) := by decide +kernel
theorem dL_shop_677 : decode cL_shop 677 = .ok (.iaload, 1) := by decide +kernel
theorem dL_shop_678 : decode cL_shop 678 = .ok (.if_icmp .ne 69, 3) := by decide +kernel
theorem dL_shop_681 : decode cL_shop 681 = .ok (.aload_n 0, 1) := by decide +kernel
theorem dL_shop_682 : decode cL_shop 682 = .ok (.bipush 6, 2) := by decide +kernel
theorem dL_shop_684 : decode cL_shop 684 = .ok (.invokevirtual 74, 3) := by decide +kernel
theorem dL_shop_687 : decode cL_shop 687 = .ok (.aload 7, 2) := by decide +kernel
theorem dL_shop_689 : decode cL_shop 689 = .ok (.invokestatic 77, 3) := by decide +kernel
theorem dL_shop_692 : decode cL_shop 692 = .ok (.if_icmp .ne 55, 3) := by decide +kernel
theorem dL_shop_695 : decode cL_shop 695 = .ok (.aload_n 0, 1) := by decide +kernel
theorem dL_shop_696 : decode cL_shop 696 = .ok (.bipush 7, 2) := by decide +kernel
theorem dL_shop_698 : decode cL_shop 698 = .ok (.invokevirtual 74, 3) := by decide +kernel
theorem dL_shop_701 : decode cL_shop 701 = .ok (.aload 10, 2) := by decide +kernel
theorem dL_shop_703 : decode cL_shop 703 = .ok (.bipush 6, 2) := by decide +kernel
theorem dL_shop_705 : decode cL_shop 705 = .ok (.iaload, 1) := by decide +kernel
theorem dL_shop_706 : decode cL_shop 706 = .ok (.if_icmp .ne 41, 3) := by decide +kernel
theorem dL_shop_709 : decode cL_shop 709 = .ok (.aload_n 0, 1) := by decide +kernel
theorem dL_shop_710 : decode cL_shop 710 = .ok (.bipush 8, 2) := by decide +kernel
theorem dL_shop_712 : decode cL_shop 712 = .ok (.invokevirtual 74, 3) := by decide +kernel
theorem dL_shop_715 : decode cL_shop 715 = .ok (.aload 10, 2) := by decide +kernel
theorem dL_shop_717 : decode cL_shop 717 = .ok (.bipush 6, 2) := by decide +kernel
theorem dL_shop_719 : decode cL_shop 719 = .ok (.iaload, 1) := by decide +kernel
theorem dL_shop_720 : decode cL_shop 720 = .ok (.iconst 3, 1) := by decide +kernel
theorem dL_shop_721 : decode cL_shop 721 = .ok (.if_icmp .ne 7, 3) := by decide +kernel
theorem dL_shop_724 : decode cL_shop 724 = .ok (.iconst 1, 1) := by decide +kernel
theorem dL_shop_725 : decode cL_shop 725 = .ok (.goto 4, 3) := by decide +kernel
theorem dL_shop_728 : decode cL_shop 728 = .ok (.iconst 0, 1) := by decide +kernel
theorem dL_shop_729 : decode cL_shop 729 = .ok (.if_icmp .ne 18, 3) := by decide +kernel
theorem dL_shop_732 : decode cL_shop 732 = .ok (.aload_n 0, 1) := by decide +kernel
theorem dL_shop_733 : decode cL_shop 733 = .ok (.bipush 9, 2) := by decide +kernel
theorem dL_shop_735 : decode cL_shop 735 = .ok (.invokevirtual 74, 3) := by decide +kernel
theorem dL_shop_738 : decode cL_shop 738 = .ok (.iload 12, 2) := by decide +kernel
theorem dL_shop_740 : decode cL_shop 740 = .ok (.if_icmp .ne 7, 3) := by decide +kernel
theorem dL_shop_743 : decode cL_shop 743 = .ok (.iconst 1, 1) := by decide +kernel
theorem dL_shop_744 : decode cL_shop 744 = .ok (.goto 4, 3) := by decide +kernel
theorem dL_shop_747 : decode cL_shop 747 = .ok (.iconst 0, 1) := by decide +kernel
theorem dL_shop_748 : decode cL_shop 748 = .ok (.ireturn, 1) := by decide +kernel
set_option maxRecDepth 20000 in
theorem ggL_other_L_low : GoodIn wsL_other wsL_low := goodIn_r _ [4, 5] (by decide +kernel) (by decide +kernel)
set_option maxRecDepth 20000 in
theorem gL_other_L_low : GoodIn wsL_other (va_wsS RL 81 yL_low wsL_low) := goodIn_app (goodIn_of _ (by decide +kernel)) ggL_other_L_low
theorem dL_other_0 : decode cL_other 0 = .ok (.aload_n 1, 1) := by decide +kernel
theorem dL_other_1 : decode cL_other 1 = .ok (.bipush 7, 2) := by decide +kernel
theorem dL_other_3 : decode cL_other 3 = .ok (.iaload, 1) := by decide +kernel
theorem dL_other_4 : decode cL_other 4 = .ok (.ifCond .eq 15, 3) := by decide +kernel
theorem dL_other_7 : decode cL_other 7 = .ok (.iload_n 2, 1) := by decide +kernel
theorem dL_other_8 : decode cL_other 8 = .ok (.bipush 8, 2) := by decide +kernel
theorem dL_other_10 : decode cL_other 10 = .ok (.ishr, 1) := by decide +kernel
theorem dL_other_11 : decode cL_other 11 = .ok (.bipush 6, 2) := by decide +kernel
theorem dL_other_13 : decode cL_other 13 = .ok (.invokestatic 81, 3) := by decide +kernel
theorem dL_other_16 : decode cL_other 16 = .ok (.ifCond .ne 13, 3) := by decide +kernel
theorem dL_other_19 : decode cL_other 19 = .ok (.iload_n 2, 1) := by decide +kernel
theorem dL_other_20 : decode cL_other 20 = .ok (.sipush 10000, 3) := by decide +kernel
theorem dL_other_23 : decode cL_other 23 = .ok (.invokestatic 81, 3) := by decide +kernel
theorem dL_other_26 : decode cL_other 26 = .ok (.goto 13, 3) := by decide +kernel
theorem dL_other_29 : decode cL_other 29 = .ok (.aload_n 0, 1) := by decide +kernel
theorem dL_other_30 : decode cL_other 30 = .ok (.iload_n 2, 1) := by decide +kernel
theorem dL_other_31 : decode cL_other 31 = .ok (.aload_n 1, 1) := by decide +kernel
theorem dL_other_32 : decode cL_other 32 = .ok (.bipush 7, 2) := by decide +kernel
theorem dL_other_34 : decode cL_other 34 = .ok (.iaload, 1) := by decide +kernel
theorem dL_other_35 : decode cL_other 35 = .ok (.invokestatic 81, 3) := by decide +kernel
theorem dL_other_38 : decode cL_other 38 = .ok (.iaload, 1) := by decide +kernel
theorem dL_other_39 : decode cL_other 39 = .ok (.ireturn, 1) := by decide +kernel
set_option maxRecDepth 20000 in
theorem ggL_law_X3_init : GoodIn wsL_law wsX3_init := goodIn_r _ [6, 7, 8, 9, 10, 11, 12, 13, 14, 15, 16, 17, 18, 19, 20, 21, 22, 23, 24, 25, 26, 27, 28, 29, 30, 3, 31, 32, 33, 34, 35, 36, 37, 38, 39, 40, 41, 42, 43, 44, 45, 46, 47, 48, 49, 50, 51, 52, 53, 54, 55, 56, 57, 58, 59, 60, 408, 409, 410, 411, 412, 413, 414, 415, 416, 417, 418, 419, 420, 421, 400, 401, 402, 403, 404, 405, 406, 407, 422, 423, 424, 425, 426] (by decide +kernel) (by decide +kernel)
set_option maxRecDepth 20000 in
theorem gL_law_X3_init : GoodIn wsL_law (wsX3_init) := ggL_law_X3_init
set_option maxRecDepth 20000 in
theorem ggL_law_L_cell : GoodIn wsL_law wsL_cell := goodIn_r _ [64, 65, 66] (by decide +kernel) (by decide +kernel)
set_option maxRecDepth 20000 in
theorem gL_law_L_cell : GoodIn wsL_law (va_wsS RL 85 yL_cell wsL_cell) := goodIn_app (goodIn_of _ (by decide +kernel)) ggL_law_L_cell
set_option maxRecDepth 20000 in
theorem ggL_law_L_low : GoodIn wsL_law wsL_low := goodIn_r _ [69, 70] (by decide +kernel) (by decide +kernel)
set_option maxRecDepth 20000 in
theorem gL_law_L_low : GoodIn wsL_law (va_wsS RL 81 yL_low wsL_low) := goodIn_app (goodIn_of _ (by decide +kernel)) ggL_law_L_low
set_option maxRecDepth 20000 in
theorem ggL_law_L_place : GoodIn wsL_law wsL_place := goodIn_r _ [73, 74, 75, 63, 76, 77, 78, 79, 80, 81, 82, 83, 84, 85] (by decide +kernel) (by decide +kernel)
set_option maxRecDepth 20000 in
theorem gL_law_L_place : GoodIn wsL_law (va_wsS RL 64 yL_place wsL_place) := goodIn_app (goodIn_of _ (by decide +kernel)) ggL_law_L_place
set_option maxRecDepth 20000 in
theorem ggL_law_L_code : GoodIn wsL_law wsL_code := goodIn_r _ [76, 77, 78, 63, 79] (by decide +kernel) (by decide +kernel)
set_option maxRecDepth 20000 in
theorem gL_law_L_code : GoodIn wsL_law (va_wsS RL 16 yL_code wsL_code) := goodIn_app (goodIn_of _ (by decide +kernel)) ggL_law_L_code
set_option maxRecDepth 20000 in
theorem ggL_law_X3_come : GoodIn wsL_law wsX3_come := goodIn_r _ [89, 19, 13, 90, 91, 92, 18, 93, 54, 94, 95, 96, 97, 98, 12, 99, 100, 101, 102, 103, 31, 41, 42, 43, 44, 32, 33, 34, 35, 36, 37, 38, 39, 40, 104, 105, 106, 2, 107, 108, 109, 110, 111, 112, 113, 114, 115, 116, 117, 118, 119, 120, 121, 122, 123, 124, 125, 126, 127, 128, 129, 130, 131, 132, 133, 134, 135, 136, 137, 138, 139, 140, 141, 142, 143, 144, 145, 146, 147, 25, 26, 148, 149, 150, 151, 152, 153, 154, 155, 156, 157, 158, 159, 160, 161, 162, 163, 164, 165, 166, 167, 168, 169, 170, 171, 400, 401, 402, 403, 404, 405, 406, 407, 422, 423, 424, 408, 409, 410, 411, 412, 413, 414, 415, 416, 417, 418, 419, 420, 421] (by decide +kernel) (by decide +kernel)
set_option maxRecDepth 20000 in
theorem gL_law_X3_come : GoodIn wsL_law (wsV RL 88 RX3 yX3_come wsX3_come) := goodIn_app (goodIn_of _ (by decide +kernel)) ggL_law_X3_come
set_option maxRecDepth 20000 in
theorem ggL_law_L_other : GoodIn wsL_law wsL_other := goodIn_r _ [174, 67, 68, 63, 69, 70] (by decide +kernel) (by decide +kernel)
set_option maxRecDepth 20000 in
theorem gL_law_L_other : GoodIn wsL_law (va_wsS RL 91 yL_other wsL_other) := goodIn_app (goodIn_of _ (by decide +kernel)) ggL_law_L_other
set_option maxRecDepth 20000 in
theorem ggL_law_L_by : GoodIn wsL_law wsL_by := goodIn_r _ [177] (by decide +kernel) (by decide +kernel)
set_option maxRecDepth 20000 in
theorem gL_law_L_by : GoodIn wsL_law (va_wsS RL 94 yL_by wsL_by) := goodIn_app (goodIn_of _ (by decide +kernel)) ggL_law_L_by
set_option maxRecDepth 20000 in
theorem ggL_law_L_fee : GoodIn wsL_law wsL_fee := goodIn_r _ [180, 181, 182, 63, 183] (by decide +kernel) (by decide +kernel)
set_option maxRecDepth 20000 in
theorem gL_law_L_fee : GoodIn wsL_law (va_wsS RL 43 yL_fee wsL_fee) := goodIn_app (goodIn_of _ (by decide +kernel)) ggL_law_L_fee
set_option maxRecDepth 20000 in
theorem ggL_law_L_sender : GoodIn wsL_law wsL_sender := goodIn_r _ [186] (by decide +kernel) (by decide +kernel)
set_option maxRecDepth 20000 in
theorem gL_law_L_sender : GoodIn wsL_law (va_wsS RL 36 yL_sender wsL_sender) := goodIn_app (goodIn_of _ (by decide +kernel)) ggL_law_L_sender
set_option maxRecDepth 20000 in
theorem ggL_law_L_leaves : GoodIn wsL_law wsL_leaves := goodIn_r _ [189] (by decide +kernel) (by decide +kernel)
set_option maxRecDepth 20000 in
theorem gL_law_L_leaves : GoodIn wsL_law (va_wsS RL 39 yL_leaves wsL_leaves) := goodIn_app (goodIn_of _ (by decide +kernel)) ggL_law_L_leaves
set_option maxRecDepth 20000 in
theorem ggL_law_X3_fetch : GoodIn wsL_law wsX3_fetch := goodIn_r _ [193, 19, 13, 90, 91, 92, 18, 93, 54, 94, 95, 96, 97, 98, 12, 99, 100, 101, 102, 103, 31, 41, 42, 43, 44, 32, 33, 34, 35, 36, 37, 38, 39, 40, 194, 195, 196, 2, 197, 198, 199, 200, 201, 110, 111, 112, 202, 203, 204, 205, 144, 145, 146, 147, 25, 26, 206, 207, 208, 209, 210, 211, 212, 213, 214, 158, 159, 160, 215, 130, 131, 216, 217, 218, 219, 220, 221, 222, 223, 224, 225, 226, 227, 161, 162, 163, 164, 165, 166, 167, 168, 169, 170, 171, 400, 401, 402, 403, 404, 405, 406, 407, 422, 423, 424, 408, 409, 410, 411, 412, 413, 414, 415, 416, 417, 418, 419, 420, 421] (by decide +kernel) (by decide +kernel)
set_option maxRecDepth 20000 in
theorem gL_law_X3_fetch : GoodIn wsL_law (wsV RL 97 RX3 yX3_fetch wsX3_fetch) := goodIn_app (goodIn_of _ (by decide +kernel)) ggL_law_X3_fetch
set_option maxRecDepth 20000 in
theorem ggL_law_L_until : GoodIn wsL_law wsL_until := goodIn_r _ [82] (by decide +kernel) (by decide +kernel)
set_option maxRecDepth 20000 in
theorem gL_law_L_until : GoodIn wsL_law (va_wsS RL 20 yL_until wsL_until) := goodIn_app (goodIn_of _ (by decide +kernel)) ggL_law_L_until
set_option maxRecDepth 20000 in
theorem ggL_law_X3_refuse : GoodIn wsL_law wsX3_refuse := goodIn_r _ [231, 19, 13, 90, 91, 92, 18, 93, 54, 94, 95, 96, 97, 98, 12, 99, 100, 101, 102, 103, 31, 41, 42, 43, 44, 32, 33, 34, 35, 36, 37, 38, 39, 40, 232, 233, 234, 2, 235, 201, 236, 206, 207, 208, 209, 210, 211, 110, 111, 112, 212, 213, 214, 158, 159, 160, 215, 130, 131, 237, 238, 239, 240, 241, 242, 133, 134, 135, 144, 145, 146, 147, 25, 26, 224, 225, 226, 227, 161, 162, 163, 164, 165, 166, 167, 168, 169, 170, 171, 400, 401, 402, 403, 404, 405, 406, 407, 422, 423, 424, 408, 409, 410, 411, 412, 413, 414, 415, 416, 417, 418, 419, 420, 421] (by decide +kernel) (by decide +kernel)
set_option maxRecDepth 20000 in
theorem gL_law_X3_refuse : GoodIn wsL_law (wsV RL 100 RX3 yX3_refuse wsX3_refuse) := goodIn_app (goodIn_of _ (by decide +kernel)) ggL_law_X3_refuse
set_option maxRecDepth 20000 in
theorem ggL_law_L_size : GoodIn wsL_law wsL_size := goodIn_r _ [183] (by decide +kernel) (by decide +kernel)
set_option maxRecDepth 20000 in
theorem gL_law_L_size : GoodIn wsL_law (va_wsS RL 28 yL_size wsL_size) := goodIn_app (goodIn_of _ (by decide +kernel)) ggL_law_L_size
set_option maxRecDepth 20000 in
theorem ggL_law_X3_move : GoodIn wsL_law wsX3_move := goodIn_r _ [246, 19, 13, 90, 91, 92, 18, 93, 54, 94, 95, 96, 97, 98, 12, 99, 100, 101, 102, 103, 31, 41, 42, 43, 44, 32, 33, 34, 35, 36, 37, 38, 39, 40, 247, 248, 249, 2, 250, 251, 201, 252, 206, 207, 208, 209, 210, 211, 110, 111, 112, 212, 213, 214, 158, 159, 160, 215, 130, 131, 237, 238, 239, 240, 241, 242, 133, 134, 135, 144, 145, 146, 147, 25, 26, 253, 254, 255, 116, 117, 118, 119, 120, 121, 122, 123, 124, 125, 126, 127, 128, 129, 132, 136, 137, 138, 139, 140, 141, 142, 143, 148, 149, 150, 151, 224, 225, 226, 227, 152, 153, 154, 155, 156, 157, 161, 162, 163, 164, 165, 166, 167, 168, 169, 170, 171, 400, 401, 402, 403, 404, 405, 406, 407, 422, 423, 424, 408, 409, 410, 411, 412, 413, 414, 415, 416, 417, 418, 419, 420, 421] (by decide +kernel) (by decide +kernel)
set_option maxRecDepth 20000 in
theorem gL_law_X3_move : GoodIn wsL_law (wsV RL 103 RX3 yX3_move wsX3_move) := goodIn_app (goodIn_of _ (by decide +kernel)) ggL_law_X3_move
set_option maxRecDepth 20000 in
theorem ggL_law_L_day : GoodIn wsL_law wsL_day := goodIn_r _ [258, 259, 260, 63, 261, 83, 84, 85, 184, 185, 186, 187, 188, 189] (by decide +kernel) (by decide +kernel)
set_option maxRecDepth 20000 in
theorem gL_law_L_day : GoodIn wsL_law (va_wsS RL 106 yL_day wsL_day) := goodIn_app (goodIn_of _ (by decide +kernel)) ggL_law_L_day
set_option maxRecDepth 20000 in
theorem ggL_law_X3_pass : GoodIn wsL_law wsX3_pass := goodIn_r _ [265, 19, 13, 90, 91, 92, 18, 93, 54, 94, 95, 96, 97, 98, 12, 99, 100, 101, 102, 103, 31, 41, 42, 43, 44, 32, 33, 34, 35, 36, 37, 38, 39, 40, 266, 267, 268, 2, 269, 108, 110, 111, 112, 270, 271, 272, 273, 274, 275, 276, 277, 278, 279, 280, 281, 282, 283, 284, 285, 286, 287, 288, 289, 290, 225, 226, 227, 130, 131, 161, 162, 163, 164, 165, 166, 167, 168, 169, 170, 171, 400, 401, 402, 403, 404, 405, 406, 407, 422, 423, 424, 408, 409, 410, 411, 412, 413, 414, 415, 416, 417, 418, 419, 420, 421] (by decide +kernel) (by decide +kernel)
set_option maxRecDepth 20000 in
theorem gL_law_X3_pass : GoodIn wsL_law (wsV RL 109 RX3 yX3_pass wsX3_pass) := goodIn_app (goodIn_of _ (by decide +kernel)) ggL_law_X3_pass
set_option maxRecDepth 20000 in
theorem ggL_law_X3_call : GoodIn wsL_law wsX3_call := goodIn_r _ [294, 19, 13, 90, 91, 92, 18, 93, 54, 94, 95, 96, 97, 98, 12, 99, 100, 101, 102, 103, 31, 41, 42, 43, 44, 32, 33, 34, 35, 36, 37, 38, 39, 40, 295, 296, 297, 2, 298, 236, 110, 111, 112, 299, 279, 280, 281, 161, 162, 163, 164, 165, 166, 167, 168, 169, 170, 171, 400, 401, 402, 403, 404, 405, 406, 407, 422, 423, 424, 408, 409, 410, 411, 412, 413, 414, 415, 416, 417, 418, 419, 420, 421] (by decide +kernel) (by decide +kernel)
set_option maxRecDepth 20000 in
theorem gL_law_X3_call : GoodIn wsL_law (wsV RL 112 RX3 yX3_call wsX3_call) := goodIn_app (goodIn_of _ (by decide +kernel)) ggL_law_X3_call
set_option maxRecDepth 20000 in
theorem ggL_law_L_takes : GoodIn wsL_law wsL_takes := goodIn_r _ [261] (by decide +kernel) (by decide +kernel)
set_option maxRecDepth 20000 in
theorem gL_law_L_takes : GoodIn wsL_law (va_wsS RL 32 yL_takes wsL_takes) := goodIn_app (goodIn_of _ (by decide +kernel)) ggL_law_L_takes
set_option maxRecDepth 20000 in
theorem ggL_law_X3_set : GoodIn wsL_law wsX3_set := goodIn_r _ [303, 19, 13, 90, 91, 92, 18, 93, 54, 94, 95, 96, 97, 98, 12, 99, 100, 101, 102, 103, 31, 41, 42, 43, 44, 32, 33, 34, 35, 36, 37, 38, 39, 40, 304, 305, 306, 2, 307, 308, 309, 310, 110, 111, 112, 161, 162, 163, 164, 165, 166, 167, 168, 169, 170, 171, 400, 401, 402, 403, 404, 405, 406, 407, 422, 423, 424, 408, 409, 410, 411, 412, 413, 414, 415, 416, 417, 418, 419, 420, 421] (by decide +kernel) (by decide +kernel)
set_option maxRecDepth 20000 in
theorem gL_law_X3_set : GoodIn wsL_law (wsV RL 115 RX3 yX3_set wsX3_set) := goodIn_app (goodIn_of _ (by decide +kernel)) ggL_law_X3_set
set_option maxRecDepth 20000 in
theorem ggL_law_X3_setting : GoodIn wsL_law wsX3_setting := goodIn_r _ [314, 13, 310, 110, 111, 2, 112, 400, 401, 402, 403, 404, 405, 406, 407, 408, 409, 410, 411, 412, 413, 414, 415, 416, 417, 418, 419, 420, 421] (by decide +kernel) (by decide +kernel)
set_option maxRecDepth 20000 in
theorem gL_law_X3_setting : GoodIn wsL_law (wsV RL 118 RX3 yX3_setting wsX3_setting) := goodIn_app (goodIn_of _ (by decide +kernel)) ggL_law_X3_setting
set_option maxRecDepth 20000 in
theorem ggL_law_X3_refusal : GoodIn wsL_law wsX3_refusal := goodIn_r _ [318, 25, 26, 400, 401, 402, 403, 404, 405, 406, 407] (by decide +kernel) (by decide +kernel)
set_option maxRecDepth 20000 in
theorem gL_law_X3_refusal : GoodIn wsL_law (wsV RL 121 RX3 yX3_refusal wsX3_refusal) := goodIn_app (goodIn_of _ (by decide +kernel)) ggL_law_X3_refusal
set_option maxRecDepth 20000 in
theorem ggL_law_L_shop_t : GoodIn wsL_law ((wsL_shop_r1 ++ (wsL_shop_r2 ++ (wsL_shop_r3 ++ (wsL_shop_r4 ++ (wsL_shop_r5 ++ (wsL_shop_r6 ++ (wsL_shop_r7 ++ wsL_shop_r8))))))) ++ wsX30 ++ wsX10) := goodIn_r _ [178, 179, 63, 180, 181, 182, 183, 322, 323, 324, 2, 325, 13, 201, 251, 252, 206, 207, 208, 12, 209, 32, 210, 211, 110, 111, 112, 212, 213, 214, 158, 159, 160, 215, 130, 131, 216, 217, 218, 219, 100, 35, 31, 220, 221, 222, 223, 34, 184, 185, 186, 326, 327, 328, 329, 330, 121, 122, 123, 152, 153, 154, 155, 156, 157, 331, 332, 333, 334, 241, 335, 336, 337, 338, 236, 339, 200, 340, 341, 342, 343, 344, 33, 120, 83, 84, 85, 74, 75, 76, 77, 78, 79, 80, 81, 82, 345, 346, 347, 348, 253, 254, 255, 349, 350, 351, 352, 353, 354, 355, 356, 124, 125, 126, 127, 128, 129, 132, 133, 134, 135, 36, 71, 72, 73, 357, 358, 359, 360, 108, 113, 114, 115, 116, 117, 118, 119, 361, 362, 363, 364, 365, 366, 367, 368, 369, 370, 109, 199, 198, 371, 372, 373, 374, 375, 376, 377, 378, 202, 203, 204, 205, 101, 379, 380, 381, 382, 383, 384, 385, 386, 400, 401, 402, 403, 404, 405, 406, 407, 408, 409, 410, 411, 412, 413, 414, 415, 416, 417, 418, 419, 420, 421] (by decide +kernel) (by decide +kernel)
theorem ggL_law_L_shop_h : Cond.code yL_shop cL_shop 18 (some .boolean) ∈ wsL_law := (List.mem_append_left _ (List.mem_append_left _ (List.mem_append_left _ (List.mem_append_left _ (List.mem_append_left _ (List.mem_append_right _ (List.mem_append_right _ (List.mem_append_right _ (List.mem_append_right _ (List.mem_append_right _ (List.mem_append_right _ (List.mem_append_right _ (List.mem_append_right _ (List.mem_append_right _ (List.mem_append_right _ (List.mem_append_right _ (List.mem_append_right _ (List.mem_append_right _ (List.mem_append_left _ (show Cond.code yL_shop cL_shop 18 (some .boolean) ∈ wsL_law_r14 from (List.mem_cons_of_mem _ (List.mem_cons_of_mem _ (List.mem_cons_of_mem _ (List.mem_cons_of_mem _ (List.mem_cons_of_mem _ (List.mem_cons_of_mem _ (List.mem_cons_of_mem _ (List.mem_cons_of_mem _ (List.mem_cons_of_mem _ List.mem_cons_self)))))))))))))))))))))))))))))
theorem ggL_law_L_shop : GoodIn wsL_law wsL_shop := fun w hw => (List.mem_cons.mp hw).elim (fun e => by rw [e]; exact ⟨ggL_law_L_shop_h, Or.inl rfl⟩) (fun h => ggL_law_L_shop_t w h)
set_option maxRecDepth 20000 in
theorem gL_law_L_shop : GoodIn wsL_law (va_wsS RL 124 yL_shop wsL_shop) := goodIn_app (goodIn_of _ (by decide +kernel)) ggL_law_L_shop
set_option maxRecDepth 20000 in
theorem ggL_law_X3_codeOf : GoodIn wsL_law wsX3_codeOf := goodIn_r _ [390, 212, 213, 2, 214, 110, 111, 112, 361, 128, 129, 362, 156, 157, 158, 159, 160] (by decide +kernel) (by decide +kernel)
set_option maxRecDepth 20000 in
theorem gL_law_X3_codeOf : GoodIn wsL_law (wsV RL 128 RX3 yX3_codeOf wsX3_codeOf) := goodIn_app (goodIn_of _ (by decide +kernel)) ggL_law_X3_codeOf
set_option maxRecDepth 20000 in
theorem ggL_law_X3_restsUntil : GoodIn wsL_law wsX3_restsUntil := goodIn_r _ [394, 13, 395, 310, 110, 111, 2, 112, 241, 210, 211, 212, 213, 214, 158, 159, 160, 215, 130, 131, 242, 133, 134, 12, 135, 36, 100, 31, 400, 401, 402, 403, 404, 405, 406, 407, 408, 409, 410, 411, 412, 413, 414, 415, 416, 417, 418, 419, 420, 421] (by decide +kernel) (by decide +kernel)
set_option maxRecDepth 20000 in
theorem gL_law_X3_restsUntil : GoodIn wsL_law (wsV RL 131 RX3 yX3_restsUntil wsX3_restsUntil) := goodIn_app (goodIn_of _ (by decide +kernel)) ggL_law_X3_restsUntil
set_option maxRecDepth 20000 in
theorem ggL_law_X3_isCode : GoodIn wsL_law wsX3_isCode := goodIn_r _ [334, 110, 111, 2, 112, 241, 210, 211, 212, 213, 214, 158, 159, 160, 215, 130, 131] (by decide +kernel) (by decide +kernel)
set_option maxRecDepth 20000 in
theorem gL_law_X3_isCode : GoodIn wsL_law (wsV RL 55 RX3 yX3_isCode wsX3_isCode) := goodIn_app (goodIn_of _ (by decide +kernel)) ggL_law_X3_isCode
set_option maxRecDepth 20000 in
theorem ggL_law_X3_feeIn : GoodIn wsL_law wsX3_feeIn := goodIn_r _ [399, 13, 206, 207, 208, 12, 209, 32, 210, 2, 211, 110, 111, 112, 212, 213, 214, 158, 159, 160, 215, 130, 131, 216, 217, 218, 219, 100, 35, 31, 220, 221, 222, 223, 34, 400, 401, 402, 403, 404, 405, 406, 407, 408, 409, 410, 411, 412, 413, 414, 415, 416, 417, 418, 419, 420, 421] (by decide +kernel) (by decide +kernel)
set_option maxRecDepth 20000 in
theorem gL_law_X3_feeIn : GoodIn wsL_law (wsV RL 134 RX3 yX3_feeIn wsX3_feeIn) := goodIn_app (goodIn_of _ (by decide +kernel)) ggL_law_X3_feeIn
theorem dL_law_0 : decode cL_law 0 = .ok (.new 48, 3) := by decide +kernel
theorem dL_law_3 : decode cL_law 3 = .ok (.dup, 1) := by decide +kernel
theorem dL_law_4 : decode cL_law 4 = .ok (.invokespecial 84, 3) := by decide +kernel
theorem dL_law_7 : decode cL_law 7 = .ok (.astore_n 1, 1) := by decide +kernel
theorem dL_law_8 : decode cL_law 8 = .ok (.bipush 64, 2) := by decide +kernel
theorem dL_law_10 : decode cL_law 10 = .ok (.newarray .int, 2) := by decide +kernel
theorem dL_law_12 : decode cL_law 12 = .ok (.astore_n 2, 1) := by decide +kernel
theorem dL_law_13 : decode cL_law 13 = .ok (.bipush 64, 2) := by decide +kernel
theorem dL_law_15 : decode cL_law 15 = .ok (.newarray .int, 2) := by decide +kernel
theorem dL_law_17 : decode cL_law 17 = .ok (.astore_n 3, 1) := by decide +kernel
theorem dL_law_18 : decode cL_law 18 = .ok (.bipush 64, 2) := by decide +kernel
theorem dL_law_20 : decode cL_law 20 = .ok (.newarray .int, 2) := by decide +kernel
theorem dL_law_22 : decode cL_law 22 = .ok (.astore 4, 2) := by decide +kernel
theorem dL_law_24 : decode cL_law 24 = .ok (.bipush 64, 2) := by decide +kernel
theorem dL_law_26 : decode cL_law 26 = .ok (.newarray .int, 2) := by decide +kernel
theorem dL_law_28 : decode cL_law 28 = .ok (.astore 5, 2) := by decide +kernel
theorem dL_law_30 : decode cL_law 30 = .ok (.bipush 64, 2) := by decide +kernel
theorem dL_law_32 : decode cL_law 32 = .ok (.newarray .int, 2) := by decide +kernel
theorem dL_law_34 : decode cL_law 34 = .ok (.astore 6, 2) := by decide +kernel
theorem dL_law_36 : decode cL_law 36 = .ok (.bipush 10, 2) := by decide +kernel
theorem dL_law_38 : decode cL_law 38 = .ok (.newarray .int, 2) := by decide +kernel
theorem dL_law_40 : decode cL_law 40 = .ok (.astore 7, 2) := by decide +kernel
theorem dL_law_42 : decode cL_law 42 = .ok (.bipush 10, 2) := by decide +kernel
theorem dL_law_44 : decode cL_law 44 = .ok (.newarray .int, 2) := by decide +kernel
theorem dL_law_46 : decode cL_law 46 = .ok (.astore 8, 2) := by decide +kernel
theorem dL_law_48 : decode cL_law 48 = .ok (.bipush 10, 2) := by decide +kernel
theorem dL_law_50 : decode cL_law 50 = .ok (.newarray .int, 2) := by decide +kernel
theorem dL_law_52 : decode cL_law 52 = .ok (.astore 9, 2) := by decide +kernel
theorem dL_law_54 : decode cL_law 54 = .ok (.bipush 10, 2) := by decide +kernel
theorem dL_law_56 : decode cL_law 56 = .ok (.newarray .int, 2) := by decide +kernel
theorem dL_law_58 : decode cL_law 58 = .ok (.astore 10, 2) := by decide +kernel
theorem dL_law_60 : decode cL_law 60 = .ok (.bipush 10, 2) := by decide +kernel
theorem dL_law_62 : decode cL_law 62 = .ok (.newarray .int, 2) := by decide +kernel
theorem dL_law_64 : decode cL_law 64 = .ok (.astore 11, 2) := by decide +kernel
theorem dL_law_66 : decode cL_law 66 = .ok (.bipush (-6), 2) := by decide +kernel
theorem dL_law_68 : decode cL_law 68 = .ok (.istore 12, 2) := by decide +kernel
theorem dL_law_70 : decode cL_law 70 = .ok (.bipush (-6), 2) := by decide +kernel
theorem dL_law_72 : decode cL_law 72 = .ok (.istore 13, 2) := by decide +kernel
theorem dL_law_74 : decode cL_law 74 = .ok (.aload 11, 2) := by decide +kernel
theorem dL_law_76 : decode cL_law 76 = .ok (.iconst 0, 1) := by decide +kernel
theorem dL_law_77 : decode cL_law 77 = .ok (.iconst 5, 1) := by decide +kernel
theorem dL_law_78 : decode cL_law 78 = .ok (.iastore, 1) := by decide +kernel
theorem dL_law_79 : decode cL_law 79 = .ok (.aload 11, 2) := by decide +kernel
theorem dL_law_81 : decode cL_law 81 = .ok (.iconst 1, 1) := by decide +kernel
theorem dL_law_82 : decode cL_law 82 = .ok (.iconst 2, 1) := by decide +kernel
theorem dL_law_83 : decode cL_law 83 = .ok (.iastore, 1) := by decide +kernel
theorem dL_law_84 : decode cL_law 84 = .ok (.aload 11, 2) := by decide +kernel
theorem dL_law_86 : decode cL_law 86 = .ok (.iconst 2, 1) := by decide +kernel
theorem dL_law_87 : decode cL_law 87 = .ok (.bipush 10, 2) := by decide +kernel
theorem dL_law_89 : decode cL_law 89 = .ok (.iastore, 1) := by decide +kernel
theorem dL_law_90 : decode cL_law 90 = .ok (.aload 11, 2) := by decide +kernel
theorem dL_law_92 : decode cL_law 92 = .ok (.iconst 3, 1) := by decide +kernel
theorem dL_law_93 : decode cL_law 93 = .ok (.bipush 7, 2) := by decide +kernel
theorem dL_law_95 : decode cL_law 95 = .ok (.iastore, 1) := by decide +kernel
theorem dL_law_96 : decode cL_law 96 = .ok (.aload 11, 2) := by decide +kernel
theorem dL_law_98 : decode cL_law 98 = .ok (.iconst 4, 1) := by decide +kernel
theorem dL_law_99 : decode cL_law 99 = .ok (.iconst 2, 1) := by decide +kernel
theorem dL_law_100 : decode cL_law 100 = .ok (.iastore, 1) := by decide +kernel
theorem dL_law_101 : decode cL_law 101 = .ok (.iconst 0, 1) := by decide +kernel
theorem dL_law_102 : decode cL_law 102 = .ok (.istore 14, 2) := by decide +kernel
theorem dL_law_104 : decode cL_law 104 = .ok (.iload 14, 2) := by decide +kernel
theorem dL_law_106 : decode cL_law 106 = .ok (.bipush 60, 2) := by decide +kernel
theorem dL_law_108 : decode cL_law 108 = .ok (.if_icmp .ge 1408, 3) := by decide +kernel
theorem dL_law_111 : decode cL_law 111 = .ok (.aload_n 0, 1) := by decide +kernel
theorem dL_law_112 : decode cL_law 112 = .ok (.iload 14, 2) := by decide +kernel
theorem dL_law_114 : decode cL_law 114 = .ok (.invokestatic 85, 3) := by decide +kernel
theorem dL_law_117 : decode cL_law 117 = .ok (.istore 15, 2) := by decide +kernel
theorem dL_law_119 : decode cL_law 119 = .ok (.iload 15, 2) := by decide +kernel
theorem dL_law_121 : decode cL_law 121 = .ok (.bipush 20, 2) := by decide +kernel
theorem dL_law_123 : decode cL_law 123 = .ok (.invokestatic 81, 3) := by decide +kernel
theorem dL_law_126 : decode cL_law 126 = .ok (.istore 16, 2) := by decide +kernel
theorem dL_law_128 : decode cL_law 128 = .ok (.iconst 1, 1) := by decide +kernel
theorem dL_law_129 : decode cL_law 129 = .ok (.istore 17, 2) := by decide +kernel
theorem dL_law_131 : decode cL_law 131 = .ok (.iload 16, 2) := by decide +kernel
theorem dL_law_133 : decode cL_law 133 = .ok (.bipush 9, 2) := by decide +kernel
theorem dL_law_135 : decode cL_law 135 = .ok (.if_icmp .ge 187, 3) := by decide +kernel
theorem dL_law_138 : decode cL_law 138 = .ok (.aload 11, 2) := by decide +kernel
theorem dL_law_140 : decode cL_law 140 = .ok (.bipush 7, 2) := by decide +kernel
theorem dL_law_142 : decode cL_law 142 = .ok (.iaload, 1) := by decide +kernel
theorem dL_law_143 : decode cL_law 143 = .ok (.bipush 60, 2) := by decide +kernel
theorem dL_law_145 : decode cL_law 145 = .ok (.if_icmp .ge 177, 3) := by decide +kernel
theorem dL_law_148 : decode cL_law 148 = .ok (.iload 15, 2) := by decide +kernel
theorem dL_law_150 : decode cL_law 150 = .ok (.iconst 5, 1) := by decide +kernel
theorem dL_law_151 : decode cL_law 151 = .ok (.ishr, 1) := by decide +kernel
theorem dL_law_152 : decode cL_law 152 = .ok (.iload 15, 2) := by decide +kernel
theorem dL_law_154 : decode cL_law 154 = .ok (.bipush 25, 2) := by decide +kernel
theorem dL_law_156 : decode cL_law 156 = .ok (.ishr, 1) := by decide +kernel
theorem dL_law_157 : decode cL_law 157 = .ok (.iconst 2, 1) := by decide +kernel
theorem dL_law_158 : decode cL_law 158 = .ok (.invokestatic 81, 3) := by decide +kernel
theorem dL_law_161 : decode cL_law 161 = .ok (.ifCond .ne 8, 3) := by decide +kernel
theorem dL_law_164 : decode cL_law 164 = .ok (.bipush 10, 2) := by decide +kernel
theorem dL_law_166 : decode cL_law 166 = .ok (.goto 4, 3) := by decide +kernel
theorem dL_law_169 : decode cL_law 169 = .ok (.iconst 2, 1) := by decide +kernel
theorem dL_law_170 : decode cL_law 170 = .ok (.invokestatic 81, 3) := by decide +kernel
theorem dL_law_173 : decode cL_law 173 = .ok (.istore 18, 2) := by decide +kernel
theorem dL_law_175 : decode cL_law 175 = .ok (.iload 15, 2) := by decide +kernel
theorem dL_law_177 : decode cL_law 177 = .ok (.bipush 9, 2) := by decide +kernel
theorem dL_law_179 : decode cL_law 179 = .ok (.ishr, 1) := by decide +kernel
theorem dL_law_180 : decode cL_law 180 = .ok (.iconst 3, 1) := by decide +kernel
theorem dL_law_181 : decode cL_law 181 = .ok (.invokestatic 81, 3) := by decide +kernel
theorem dL_law_184 : decode cL_law 184 = .ok (.istore 19, 2) := by decide +kernel
theorem dL_law_186 : decode cL_law 186 = .ok (.aload_n 2, 1) := by decide +kernel
theorem dL_law_187 : decode cL_law 187 = .ok (.aload 5, 2) := by decide +kernel
theorem dL_law_189 : decode cL_law 189 = .ok (.aload 6, 2) := by decide +kernel
theorem dL_law_191 : decode cL_law 191 = .ok (.aload 11, 2) := by decide +kernel
theorem dL_law_193 : decode cL_law 193 = .ok (.iconst 2, 1) := by decide +kernel
theorem dL_law_194 : decode cL_law 194 = .ok (.iload 19, 2) := by decide +kernel
theorem dL_law_196 : decode cL_law 196 = .ok (.imul, 1) := by decide +kernel
theorem dL_law_197 : decode cL_law 197 = .ok (.iconst 5, 1) := by decide +kernel
theorem dL_law_198 : decode cL_law 198 = .ok (.invokestatic 64, 3) := by decide +kernel
theorem dL_law_201 : decode cL_law 201 = .ok (.istore 20, 2) := by decide +kernel
theorem dL_law_203 : decode cL_law 203 = .ok (.iload 20, 2) := by decide +kernel
theorem dL_law_205 : decode cL_law 205 = .ok (.ifCond .lt 68, 3) := by decide +kernel
theorem dL_law_208 : decode cL_law 208 = .ok (.aload_n 2, 1) := by decide +kernel
theorem dL_law_209 : decode cL_law 209 = .ok (.aload 11, 2) := by decide +kernel
theorem dL_law_211 : decode cL_law 211 = .ok (.bipush 7, 2) := by decide +kernel
theorem dL_law_213 : decode cL_law 213 = .ok (.iaload, 1) := by decide +kernel
theorem dL_law_214 : decode cL_law 214 = .ok (.iload 20, 2) := by decide +kernel
theorem dL_law_216 : decode cL_law 216 = .ok (.iastore, 1) := by decide +kernel
theorem dL_law_217 : decode cL_law 217 = .ok (.aload_n 3, 1) := by decide +kernel
theorem dL_law_218 : decode cL_law 218 = .ok (.aload 11, 2) := by decide +kernel
theorem dL_law_220 : decode cL_law 220 = .ok (.bipush 7, 2) := by decide +kernel
theorem dL_law_222 : decode cL_law 222 = .ok (.iaload, 1) := by decide +kernel
theorem dL_law_223 : decode cL_law 223 = .ok (.sipush 1000, 3) := by decide +kernel
theorem dL_law_226 : decode cL_law 226 = .ok (.aload 11, 2) := by decide +kernel
theorem dL_law_228 : decode cL_law 228 = .ok (.iconst 5, 1) := by decide +kernel
theorem dL_law_229 : decode cL_law 229 = .ok (.iaload, 1) := by decide +kernel
theorem dL_law_230 : decode cL_law 230 = .ok (.imul, 1) := by decide +kernel
theorem dL_law_231 : decode cL_law 231 = .ok (.bipush 100, 2) := by decide +kernel
theorem dL_law_233 : decode cL_law 233 = .ok (.iload 18, 2) := by decide +kernel
theorem dL_law_235 : decode cL_law 235 = .ok (.imul, 1) := by decide +kernel
theorem dL_law_236 : decode cL_law 236 = .ok (.iadd, 1) := by decide +kernel
theorem dL_law_237 : decode cL_law 237 = .ok (.bipush 10, 2) := by decide +kernel
theorem dL_law_239 : decode cL_law 239 = .ok (.iload 19, 2) := by decide +kernel
theorem dL_law_241 : decode cL_law 241 = .ok (.imul, 1) := by decide +kernel
theorem dL_law_242 : decode cL_law 242 = .ok (.iadd, 1) := by decide +kernel
theorem dL_law_243 : decode cL_law 243 = .ok (.iastore, 1) := by decide +kernel
theorem dL_law_244 : decode cL_law 244 = .ok (.aload 4, 2) := by decide +kernel
theorem dL_law_246 : decode cL_law 246 = .ok (.aload 11, 2) := by decide +kernel
theorem dL_law_248 : decode cL_law 248 = .ok (.bipush 7, 2) := by decide +kernel
theorem dL_law_250 : decode cL_law 250 = .ok (.iaload, 1) := by decide +kernel
theorem dL_law_251 : decode cL_law 251 = .ok (.aload 11, 2) := by decide +kernel
theorem dL_law_253 : decode cL_law 253 = .ok (.iconst 5, 1) := by decide +kernel
theorem dL_law_254 : decode cL_law 254 = .ok (.iaload, 1) := by decide +kernel
theorem dL_law_255 : decode cL_law 255 = .ok (.iload 20, 2) := by decide +kernel
theorem dL_law_257 : decode cL_law 257 = .ok (.invokestatic 16, 3) := by decide +kernel
theorem dL_law_260 : decode cL_law 260 = .ok (.iastore, 1) := by decide +kernel
theorem dL_law_261 : decode cL_law 261 = .ok (.aload 11, 2) := by decide +kernel
theorem dL_law_263 : decode cL_law 263 = .ok (.bipush 7, 2) := by decide +kernel
theorem dL_law_265 : decode cL_law 265 = .ok (.dup2, 1) := by decide +kernel
theorem dL_law_266 : decode cL_law 266 = .ok (.iaload, 1) := by decide +kernel
theorem dL_law_267 : decode cL_law 267 = .ok (.iconst 1, 1) := by decide +kernel
theorem dL_law_268 : decode cL_law 268 = .ok (.iadd, 1) := by decide +kernel
theorem dL_law_269 : decode cL_law 269 = .ok (.iastore, 1) := by decide +kernel
theorem dL_law_270 : decode cL_law 270 = .ok (.goto 11, 3) := by decide +kernel
theorem dL_law_273 : decode cL_law 273 = .ok (.iconst 1, 1) := by decide +kernel
theorem dL_law_274 : decode cL_law 274 = .ok (.istore 12, 2) := by decide +kernel
theorem dL_law_276 : decode cL_law 276 = .ok (.iload 20, 2) := by decide +kernel
theorem dL_law_278 : decode cL_law 278 = .ok (.ineg, 1) := by decide +kernel
theorem dL_law_279 : decode cL_law 279 = .ok (.istore 13, 2) := by decide +kernel
theorem dL_law_281 : decode cL_law 281 = .ok (.aload_n 1, 1) := by decide +kernel
theorem dL_law_282 : decode cL_law 282 = .ok (.iload 18, 2) := by decide +kernel
theorem dL_law_284 : decode cL_law 284 = .ok (.iload 19, 2) := by decide +kernel
theorem dL_law_286 : decode cL_law 286 = .ok (.invokevirtual 88, 3) := by decide +kernel
theorem dL_law_289 : decode cL_law 289 = .ok (.iload 20, 2) := by decide +kernel
theorem dL_law_291 : decode cL_law 291 = .ok (.ifCond .ge 8, 3) := by decide +kernel
theorem dL_law_294 : decode cL_law 294 = .ok (.bipush (-4), 2) := by decide +kernel
theorem dL_law_296 : decode cL_law 296 = .ok (.goto 13, 3) := by decide +kernel
theorem dL_law_299 : decode cL_law 299 = .ok (.aload 4, 2) := by decide +kernel
theorem dL_law_301 : decode cL_law 301 = .ok (.aload 11, 2) := by decide +kernel
theorem dL_law_303 : decode cL_law 303 = .ok (.bipush 7, 2) := by decide +kernel
theorem dL_law_305 : decode cL_law 305 = .ok (.iaload, 1) := by decide +kernel
theorem dL_law_306 : decode cL_law 306 = .ok (.iconst 1, 1) := by decide +kernel
theorem dL_law_307 : decode cL_law 307 = .ok (.isub, 1) := by decide +kernel
theorem dL_law_308 : decode cL_law 308 = .ok (.iaload, 1) := by decide +kernel
theorem dL_law_309 : decode cL_law 309 = .ok (.if_icmp .ne 7, 3) := by decide +kernel
theorem dL_law_312 : decode cL_law 312 = .ok (.iconst 1, 1) := by decide +kernel
theorem dL_law_313 : decode cL_law 313 = .ok (.goto 4, 3) := by decide +kernel
theorem dL_law_316 : decode cL_law 316 = .ok (.iconst 0, 1) := by decide +kernel
theorem dL_law_317 : decode cL_law 317 = .ok (.istore 17, 2) := by decide +kernel
theorem dL_law_319 : decode cL_law 319 = .ok (.goto 853, 3) := by decide +kernel
theorem dL_law_322 : decode cL_law 322 = .ok (.iload 16, 2) := by decide +kernel
theorem dL_law_324 : decode cL_law 324 = .ok (.bipush 12, 2) := by decide +kernel
theorem dL_law_326 : decode cL_law 326 = .ok (.if_icmp .ge 144, 3) := by decide +kernel
theorem dL_law_329 : decode cL_law 329 = .ok (.aload 4, 2) := by decide +kernel
theorem dL_law_331 : decode cL_law 331 = .ok (.aload 11, 2) := by decide +kernel
theorem dL_law_333 : decode cL_law 333 = .ok (.iload 15, 2) := by decide +kernel
theorem dL_law_335 : decode cL_law 335 = .ok (.iconst 5, 1) := by decide +kernel
theorem dL_law_336 : decode cL_law 336 = .ok (.ishr, 1) := by decide +kernel
theorem dL_law_337 : decode cL_law 337 = .ok (.invokestatic 91, 3) := by decide +kernel
theorem dL_law_340 : decode cL_law 340 = .ok (.istore 18, 2) := by decide +kernel
theorem dL_law_342 : decode cL_law 342 = .ok (.aload_n 2, 1) := by decide +kernel
theorem dL_law_343 : decode cL_law 343 = .ok (.aload 4, 2) := by decide +kernel
theorem dL_law_345 : decode cL_law 345 = .ok (.aload 11, 2) := by decide +kernel
theorem dL_law_347 : decode cL_law 347 = .ok (.iload 18, 2) := by decide +kernel
theorem dL_law_349 : decode cL_law 349 = .ok (.invokestatic 94, 3) := by decide +kernel
theorem dL_law_352 : decode cL_law 352 = .ok (.istore 19, 2) := by decide +kernel
theorem dL_law_354 : decode cL_law 354 = .ok (.bipush (-7), 2) := by decide +kernel
theorem dL_law_356 : decode cL_law 356 = .ok (.istore 20, 2) := by decide +kernel
theorem dL_law_358 : decode cL_law 358 = .ok (.aload 11, 2) := by decide +kernel
theorem dL_law_360 : decode cL_law 360 = .ok (.bipush 6, 2) := by decide +kernel
theorem dL_law_362 : decode cL_law 362 = .ok (.iaload, 1) := by decide +kernel
theorem dL_law_363 : decode cL_law 363 = .ok (.iconst 3, 1) := by decide +kernel
theorem dL_law_364 : decode cL_law 364 = .ok (.if_icmp .ne 17, 3) := by decide +kernel
theorem dL_law_367 : decode cL_law 367 = .ok (.bipush (-3), 2) := by decide +kernel
theorem dL_law_369 : decode cL_law 369 = .ok (.istore 20, 2) := by decide +kernel
theorem dL_law_371 : decode cL_law 371 = .ok (.iconst 2, 1) := by decide +kernel
theorem dL_law_372 : decode cL_law 372 = .ok (.istore 12, 2) := by decide +kernel
theorem dL_law_374 : decode cL_law 374 = .ok (.bipush (-6), 2) := by decide +kernel
theorem dL_law_376 : decode cL_law 376 = .ok (.istore 13, 2) := by decide +kernel
theorem dL_law_378 : decode cL_law 378 = .ok (.goto 71, 3) := by decide +kernel
theorem dL_law_381 : decode cL_law 381 = .ok (.iload 19, 2) := by decide +kernel
theorem dL_law_383 : decode cL_law 383 = .ok (.ifCond .ge 15, 3) := by decide +kernel
theorem dL_law_386 : decode cL_law 386 = .ok (.aload 11, 2) := by decide +kernel
theorem dL_law_388 : decode cL_law 388 = .ok (.bipush 6, 2) := by decide +kernel
theorem dL_law_390 : decode cL_law 390 = .ok (.dup2, 1) := by decide +kernel
theorem dL_law_391 : decode cL_law 391 = .ok (.iaload, 1) := by decide +kernel
theorem dL_law_392 : decode cL_law 392 = .ok (.iconst 1, 1) := by decide +kernel
theorem dL_law_393 : decode cL_law 393 = .ok (.iadd, 1) := by decide +kernel
theorem dL_law_394 : decode cL_law 394 = .ok (.iastore, 1) := by decide +kernel
theorem dL_law_395 : decode cL_law 395 = .ok (.goto 54, 3) := by decide +kernel
theorem dL_law_398 : decode cL_law 398 = .ok (.aload_n 3, 1) := by decide +kernel
theorem dL_law_399 : decode cL_law 399 = .ok (.aload 11, 2) := by decide +kernel
theorem dL_law_401 : decode cL_law 401 = .ok (.iload 19, 2) := by decide +kernel
theorem dL_law_403 : decode cL_law 403 = .ok (.aload 11, 2) := by decide +kernel
theorem dL_law_405 : decode cL_law 405 = .ok (.iconst 5, 1) := by decide +kernel
theorem dL_law_406 : decode cL_law 406 = .ok (.iaload, 1) := by decide +kernel
theorem dL_law_407 : decode cL_law 407 = .ok (.invokestatic 43, 3) := by decide +kernel
theorem dL_law_410 : decode cL_law 410 = .ok (.istore 20, 2) := by decide +kernel
theorem dL_law_412 : decode cL_law 412 = .ok (.aload 11, 2) := by decide +kernel
theorem dL_law_414 : decode cL_law 414 = .ok (.bipush 9, 2) := by decide +kernel
theorem dL_law_416 : decode cL_law 416 = .ok (.dup2, 1) := by decide +kernel
theorem dL_law_417 : decode cL_law 417 = .ok (.iaload, 1) := by decide +kernel
theorem dL_law_418 : decode cL_law 418 = .ok (.iload 20, 2) := by decide +kernel
theorem dL_law_420 : decode cL_law 420 = .ok (.iadd, 1) := by decide +kernel
theorem dL_law_421 : decode cL_law 421 = .ok (.iastore, 1) := by decide +kernel
theorem dL_law_422 : decode cL_law 422 = .ok (.aload 9, 2) := by decide +kernel
theorem dL_law_424 : decode cL_law 424 = .ok (.aload_n 3, 1) := by decide +kernel
theorem dL_law_425 : decode cL_law 425 = .ok (.iload 19, 2) := by decide +kernel
theorem dL_law_427 : decode cL_law 427 = .ok (.invokestatic 36, 3) := by decide +kernel
theorem dL_law_430 : decode cL_law 430 = .ok (.dup2, 1) := by decide +kernel
theorem dL_law_431 : decode cL_law 431 = .ok (.iaload, 1) := by decide +kernel
theorem dL_law_432 : decode cL_law 432 = .ok (.iconst 1, 1) := by decide +kernel
theorem dL_law_433 : decode cL_law 433 = .ok (.iadd, 1) := by decide +kernel
theorem dL_law_434 : decode cL_law 434 = .ok (.iastore, 1) := by decide +kernel
theorem dL_law_435 : decode cL_law 435 = .ok (.aload_n 2, 1) := by decide +kernel
theorem dL_law_436 : decode cL_law 436 = .ok (.aload 4, 2) := by decide +kernel
theorem dL_law_438 : decode cL_law 438 = .ok (.aload 5, 2) := by decide +kernel
theorem dL_law_440 : decode cL_law 440 = .ok (.aload 6, 2) := by decide +kernel
theorem dL_law_442 : decode cL_law 442 = .ok (.aload 11, 2) := by decide +kernel
theorem dL_law_444 : decode cL_law 444 = .ok (.iload 19, 2) := by decide +kernel
theorem dL_law_446 : decode cL_law 446 = .ok (.invokestatic 39, 3) := by decide +kernel
theorem dL_law_449 : decode cL_law 449 = .ok (.aload_n 1, 1) := by decide +kernel
theorem dL_law_450 : decode cL_law 450 = .ok (.iload 18, 2) := by decide +kernel
theorem dL_law_452 : decode cL_law 452 = .ok (.invokevirtual 97, 3) := by decide +kernel
theorem dL_law_455 : decode cL_law 455 = .ok (.iload 20, 2) := by decide +kernel
theorem dL_law_457 : decode cL_law 457 = .ok (.if_icmp .ne 7, 3) := by decide +kernel
theorem dL_law_460 : decode cL_law 460 = .ok (.iconst 1, 1) := by decide +kernel
theorem dL_law_461 : decode cL_law 461 = .ok (.goto 4, 3) := by decide +kernel
theorem dL_law_464 : decode cL_law 464 = .ok (.iconst 0, 1) := by decide +kernel
theorem dL_law_465 : decode cL_law 465 = .ok (.istore 17, 2) := by decide +kernel
theorem dL_law_467 : decode cL_law 467 = .ok (.goto 705, 3) := by decide +kernel
theorem dL_law_470 : decode cL_law 470 = .ok (.iload 16, 2) := by decide +kernel
theorem dL_law_472 : decode cL_law 472 = .ok (.bipush 14, 2) := by decide +kernel
theorem dL_law_474 : decode cL_law 474 = .ok (.if_icmp .ge 155, 3) := by decide +kernel
theorem dL_law_477 : decode cL_law 477 = .ok (.aload 4, 2) := by decide +kernel
theorem dL_law_479 : decode cL_law 479 = .ok (.aload 11, 2) := by decide +kernel
theorem dL_law_481 : decode cL_law 481 = .ok (.iload 15, 2) := by decide +kernel
theorem dL_law_483 : decode cL_law 483 = .ok (.iconst 5, 1) := by decide +kernel
theorem dL_law_484 : decode cL_law 484 = .ok (.ishr, 1) := by decide +kernel
theorem dL_law_485 : decode cL_law 485 = .ok (.invokestatic 91, 3) := by decide +kernel
theorem dL_law_488 : decode cL_law 488 = .ok (.istore 18, 2) := by decide +kernel
theorem dL_law_490 : decode cL_law 490 = .ok (.aload_n 2, 1) := by decide +kernel
theorem dL_law_491 : decode cL_law 491 = .ok (.aload 4, 2) := by decide +kernel
theorem dL_law_493 : decode cL_law 493 = .ok (.aload 11, 2) := by decide +kernel
theorem dL_law_495 : decode cL_law 495 = .ok (.iload 18, 2) := by decide +kernel
theorem dL_law_497 : decode cL_law 497 = .ok (.invokestatic 94, 3) := by decide +kernel
theorem dL_law_500 : decode cL_law 500 = .ok (.istore 19, 2) := by decide +kernel
theorem dL_law_502 : decode cL_law 502 = .ok (.iconst (-1), 1) := by decide +kernel
theorem dL_law_503 : decode cL_law 503 = .ok (.istore 20, 2) := by decide +kernel
theorem dL_law_505 : decode cL_law 505 = .ok (.iload 19, 2) := by decide +kernel
theorem dL_law_507 : decode cL_law 507 = .ok (.ifCond .ge 35, 3) := by decide +kernel
theorem dL_law_510 : decode cL_law 510 = .ok (.iconst 4, 1) := by decide +kernel
theorem dL_law_511 : decode cL_law 511 = .ok (.istore 12, 2) := by decide +kernel
theorem dL_law_513 : decode cL_law 513 = .ok (.aload 5, 2) := by decide +kernel
theorem dL_law_515 : decode cL_law 515 = .ok (.aload 6, 2) := by decide +kernel
theorem dL_law_517 : decode cL_law 517 = .ok (.aload 11, 2) := by decide +kernel
theorem dL_law_519 : decode cL_law 519 = .ok (.iload 18, 2) := by decide +kernel
theorem dL_law_521 : decode cL_law 521 = .ok (.invokestatic 20, 3) := by decide +kernel
theorem dL_law_524 : decode cL_law 524 = .ok (.aload 11, 2) := by decide +kernel
theorem dL_law_526 : decode cL_law 526 = .ok (.iconst 5, 1) := by decide +kernel
theorem dL_law_527 : decode cL_law 527 = .ok (.iaload, 1) := by decide +kernel
theorem dL_law_528 : decode cL_law 528 = .ok (.if_icmp .le 7, 3) := by decide +kernel
theorem dL_law_531 : decode cL_law 531 = .ok (.iconst 5, 1) := by decide +kernel
theorem dL_law_532 : decode cL_law 532 = .ok (.goto 5, 3) := by decide +kernel
theorem dL_law_535 : decode cL_law 535 = .ok (.bipush (-6), 2) := by decide +kernel
theorem dL_law_537 : decode cL_law 537 = .ok (.istore 13, 2) := by decide +kernel
theorem dL_law_539 : decode cL_law 539 = .ok (.goto 69, 3) := by decide +kernel
theorem dL_law_542 : decode cL_law 542 = .ok (.aload 7, 2) := by decide +kernel
theorem dL_law_544 : decode cL_law 544 = .ok (.aload_n 3, 1) := by decide +kernel
theorem dL_law_545 : decode cL_law 545 = .ok (.iload 19, 2) := by decide +kernel
theorem dL_law_547 : decode cL_law 547 = .ok (.invokestatic 36, 3) := by decide +kernel
theorem dL_law_550 : decode cL_law 550 = .ok (.iaload, 1) := by decide +kernel
theorem dL_law_551 : decode cL_law 551 = .ok (.bipush 9, 2) := by decide +kernel
theorem dL_law_553 : decode cL_law 553 = .ok (.if_icmp .ne 17, 3) := by decide +kernel
theorem dL_law_556 : decode cL_law 556 = .ok (.bipush (-3), 2) := by decide +kernel
theorem dL_law_558 : decode cL_law 558 = .ok (.istore 20, 2) := by decide +kernel
theorem dL_law_560 : decode cL_law 560 = .ok (.iconst 3, 1) := by decide +kernel
theorem dL_law_561 : decode cL_law 561 = .ok (.istore 12, 2) := by decide +kernel
theorem dL_law_563 : decode cL_law 563 = .ok (.bipush (-6), 2) := by decide +kernel
theorem dL_law_565 : decode cL_law 565 = .ok (.istore 13, 2) := by decide +kernel
theorem dL_law_567 : decode cL_law 567 = .ok (.goto 41, 3) := by decide +kernel
theorem dL_law_570 : decode cL_law 570 = .ok (.aload 7, 2) := by decide +kernel
theorem dL_law_572 : decode cL_law 572 = .ok (.aload_n 3, 1) := by decide +kernel
theorem dL_law_573 : decode cL_law 573 = .ok (.iload 19, 2) := by decide +kernel
theorem dL_law_575 : decode cL_law 575 = .ok (.invokestatic 36, 3) := by decide +kernel
theorem dL_law_578 : decode cL_law 578 = .ok (.dup2, 1) := by decide +kernel
theorem dL_law_579 : decode cL_law 579 = .ok (.iaload, 1) := by decide +kernel
theorem dL_law_580 : decode cL_law 580 = .ok (.iconst 1, 1) := by decide +kernel
theorem dL_law_581 : decode cL_law 581 = .ok (.iadd, 1) := by decide +kernel
theorem dL_law_582 : decode cL_law 582 = .ok (.iastore, 1) := by decide +kernel
theorem dL_law_583 : decode cL_law 583 = .ok (.aload 7, 2) := by decide +kernel
theorem dL_law_585 : decode cL_law 585 = .ok (.aload_n 3, 1) := by decide +kernel
theorem dL_law_586 : decode cL_law 586 = .ok (.iload 19, 2) := by decide +kernel
theorem dL_law_588 : decode cL_law 588 = .ok (.invokestatic 36, 3) := by decide +kernel
theorem dL_law_591 : decode cL_law 591 = .ok (.iaload, 1) := by decide +kernel
theorem dL_law_592 : decode cL_law 592 = .ok (.istore 20, 2) := by decide +kernel
theorem dL_law_594 : decode cL_law 594 = .ok (.aload_n 2, 1) := by decide +kernel
theorem dL_law_595 : decode cL_law 595 = .ok (.aload 4, 2) := by decide +kernel
theorem dL_law_597 : decode cL_law 597 = .ok (.aload 5, 2) := by decide +kernel
theorem dL_law_599 : decode cL_law 599 = .ok (.aload 6, 2) := by decide +kernel
theorem dL_law_601 : decode cL_law 601 = .ok (.aload 11, 2) := by decide +kernel
theorem dL_law_603 : decode cL_law 603 = .ok (.iload 19, 2) := by decide +kernel
theorem dL_law_605 : decode cL_law 605 = .ok (.invokestatic 39, 3) := by decide +kernel
theorem dL_law_608 : decode cL_law 608 = .ok (.aload_n 1, 1) := by decide +kernel
theorem dL_law_609 : decode cL_law 609 = .ok (.iload 18, 2) := by decide +kernel
theorem dL_law_611 : decode cL_law 611 = .ok (.invokevirtual 100, 3) := by decide +kernel
theorem dL_law_614 : decode cL_law 614 = .ok (.iload 20, 2) := by decide +kernel
theorem dL_law_616 : decode cL_law 616 = .ok (.if_icmp .ne 7, 3) := by decide +kernel
theorem dL_law_619 : decode cL_law 619 = .ok (.iconst 1, 1) := by decide +kernel
theorem dL_law_620 : decode cL_law 620 = .ok (.goto 4, 3) := by decide +kernel
theorem dL_law_623 : decode cL_law 623 = .ok (.iconst 0, 1) := by decide +kernel
theorem dL_law_624 : decode cL_law 624 = .ok (.istore 17, 2) := by decide +kernel
theorem dL_law_626 : decode cL_law 626 = .ok (.goto 546, 3) := by decide +kernel
theorem dL_law_629 : decode cL_law 629 = .ok (.iload 16, 2) := by decide +kernel
theorem dL_law_631 : decode cL_law 631 = .ok (.bipush 14, 2) := by decide +kernel
theorem dL_law_633 : decode cL_law 633 = .ok (.if_icmp .ne 212, 3) := by decide +kernel
theorem dL_law_636 : decode cL_law 636 = .ok (.aload 4, 2) := by decide +kernel
theorem dL_law_638 : decode cL_law 638 = .ok (.aload 11, 2) := by decide +kernel
theorem dL_law_640 : decode cL_law 640 = .ok (.iload 15, 2) := by decide +kernel
theorem dL_law_642 : decode cL_law 642 = .ok (.iconst 5, 1) := by decide +kernel
theorem dL_law_643 : decode cL_law 643 = .ok (.ishr, 1) := by decide +kernel
theorem dL_law_644 : decode cL_law 644 = .ok (.invokestatic 91, 3) := by decide +kernel
theorem dL_law_647 : decode cL_law 647 = .ok (.istore 18, 2) := by decide +kernel
theorem dL_law_649 : decode cL_law 649 = .ok (.aload_n 2, 1) := by decide +kernel
theorem dL_law_650 : decode cL_law 650 = .ok (.aload 4, 2) := by decide +kernel
theorem dL_law_652 : decode cL_law 652 = .ok (.aload 11, 2) := by decide +kernel
theorem dL_law_654 : decode cL_law 654 = .ok (.iload 18, 2) := by decide +kernel
theorem dL_law_656 : decode cL_law 656 = .ok (.invokestatic 94, 3) := by decide +kernel
theorem dL_law_659 : decode cL_law 659 = .ok (.istore 19, 2) := by decide +kernel
theorem dL_law_661 : decode cL_law 661 = .ok (.iload 15, 2) := by decide +kernel
theorem dL_law_663 : decode cL_law 663 = .ok (.bipush 20, 2) := by decide +kernel
theorem dL_law_665 : decode cL_law 665 = .ok (.ishr, 1) := by decide +kernel
theorem dL_law_666 : decode cL_law 666 = .ok (.bipush 6, 2) := by decide +kernel
theorem dL_law_668 : decode cL_law 668 = .ok (.invokestatic 81, 3) := by decide +kernel
theorem dL_law_671 : decode cL_law 671 = .ok (.istore 20, 2) := by decide +kernel
theorem dL_law_673 : decode cL_law 673 = .ok (.iconst (-1), 1) := by decide +kernel
theorem dL_law_674 : decode cL_law 674 = .ok (.istore 21, 2) := by decide +kernel
theorem dL_law_676 : decode cL_law 676 = .ok (.iload 19, 2) := by decide +kernel
theorem dL_law_678 : decode cL_law 678 = .ok (.ifCond .ge 35, 3) := by decide +kernel
theorem dL_law_681 : decode cL_law 681 = .ok (.iconst 4, 1) := by decide +kernel
theorem dL_law_682 : decode cL_law 682 = .ok (.istore 12, 2) := by decide +kernel
theorem dL_law_684 : decode cL_law 684 = .ok (.aload 5, 2) := by decide +kernel
theorem dL_law_686 : decode cL_law 686 = .ok (.aload 6, 2) := by decide +kernel
theorem dL_law_688 : decode cL_law 688 = .ok (.aload 11, 2) := by decide +kernel
theorem dL_law_690 : decode cL_law 690 = .ok (.iload 18, 2) := by decide +kernel
theorem dL_law_692 : decode cL_law 692 = .ok (.invokestatic 20, 3) := by decide +kernel
theorem dL_law_695 : decode cL_law 695 = .ok (.aload 11, 2) := by decide +kernel
theorem dL_law_697 : decode cL_law 697 = .ok (.iconst 5, 1) := by decide +kernel
theorem dL_law_698 : decode cL_law 698 = .ok (.iaload, 1) := by decide +kernel
theorem dL_law_699 : decode cL_law 699 = .ok (.if_icmp .le 7, 3) := by decide +kernel
theorem dL_law_702 : decode cL_law 702 = .ok (.iconst 5, 1) := by decide +kernel
theorem dL_law_703 : decode cL_law 703 = .ok (.goto 5, 3) := by decide +kernel
theorem dL_law_706 : decode cL_law 706 = .ok (.bipush (-6), 2) := by decide +kernel
theorem dL_law_708 : decode cL_law 708 = .ok (.istore 13, 2) := by decide +kernel
theorem dL_law_710 : decode cL_law 710 = .ok (.goto 112, 3) := by decide +kernel
theorem dL_law_713 : decode cL_law 713 = .ok (.aload_n 2, 1) := by decide +kernel
theorem dL_law_714 : decode cL_law 714 = .ok (.iload 19, 2) := by decide +kernel
theorem dL_law_716 : decode cL_law 716 = .ok (.iaload, 1) := by decide +kernel
theorem dL_law_717 : decode cL_law 717 = .ok (.bipush 8, 2) := by decide +kernel
theorem dL_law_719 : decode cL_law 719 = .ok (.idiv, 1) := by decide +kernel
theorem dL_law_720 : decode cL_law 720 = .ok (.iload 20, 2) := by decide +kernel
theorem dL_law_722 : decode cL_law 722 = .ok (.if_icmp .eq 16, 3) := by decide +kernel
theorem dL_law_725 : decode cL_law 725 = .ok (.iload 20, 2) := by decide +kernel
theorem dL_law_727 : decode cL_law 727 = .ok (.iconst 2, 1) := by decide +kernel
theorem dL_law_728 : decode cL_law 728 = .ok (.idiv, 1) := by decide +kernel
theorem dL_law_729 : decode cL_law 729 = .ok (.aload_n 3, 1) := by decide +kernel
theorem dL_law_730 : decode cL_law 730 = .ok (.iload 19, 2) := by decide +kernel
theorem dL_law_732 : decode cL_law 732 = .ok (.invokestatic 28, 3) := by decide +kernel
theorem dL_law_735 : decode cL_law 735 = .ok (.if_icmp .ge 10, 3) := by decide +kernel
theorem dL_law_738 : decode cL_law 738 = .ok (.bipush (-2), 2) := by decide +kernel
theorem dL_law_740 : decode cL_law 740 = .ok (.istore 21, 2) := by decide +kernel
theorem dL_law_742 : decode cL_law 742 = .ok (.goto 80, 3) := by decide +kernel
theorem dL_law_745 : decode cL_law 745 = .ok (.aload_n 2, 1) := by decide +kernel
theorem dL_law_746 : decode cL_law 746 = .ok (.aload 5, 2) := by decide +kernel
theorem dL_law_748 : decode cL_law 748 = .ok (.aload 6, 2) := by decide +kernel
theorem dL_law_750 : decode cL_law 750 = .ok (.aload 11, 2) := by decide +kernel
theorem dL_law_752 : decode cL_law 752 = .ok (.iload 20, 2) := by decide +kernel
theorem dL_law_754 : decode cL_law 754 = .ok (.iload 20, 2) := by decide +kernel
theorem dL_law_756 : decode cL_law 756 = .ok (.invokestatic 64, 3) := by decide +kernel
theorem dL_law_759 : decode cL_law 759 = .ok (.istore 22, 2) := by decide +kernel
theorem dL_law_761 : decode cL_law 761 = .ok (.bipush (-4), 2) := by decide +kernel
theorem dL_law_763 : decode cL_law 763 = .ok (.istore 21, 2) := by decide +kernel
theorem dL_law_765 : decode cL_law 765 = .ok (.iload 22, 2) := by decide +kernel
theorem dL_law_767 : decode cL_law 767 = .ok (.ifCond .ge 14, 3) := by decide +kernel
theorem dL_law_770 : decode cL_law 770 = .ok (.iconst 1, 1) := by decide +kernel
theorem dL_law_771 : decode cL_law 771 = .ok (.istore 12, 2) := by decide +kernel
theorem dL_law_773 : decode cL_law 773 = .ok (.iload 22, 2) := by decide +kernel
theorem dL_law_775 : decode cL_law 775 = .ok (.ineg, 1) := by decide +kernel
theorem dL_law_776 : decode cL_law 776 = .ok (.istore 13, 2) := by decide +kernel
theorem dL_law_778 : decode cL_law 778 = .ok (.goto 44, 3) := by decide +kernel
theorem dL_law_781 : decode cL_law 781 = .ok (.aload_n 2, 1) := by decide +kernel
theorem dL_law_782 : decode cL_law 782 = .ok (.aload 4, 2) := by decide +kernel
theorem dL_law_784 : decode cL_law 784 = .ok (.aload 5, 2) := by decide +kernel
theorem dL_law_786 : decode cL_law 786 = .ok (.aload 6, 2) := by decide +kernel
theorem dL_law_788 : decode cL_law 788 = .ok (.aload 11, 2) := by decide +kernel
theorem dL_law_790 : decode cL_law 790 = .ok (.iload 19, 2) := by decide +kernel
theorem dL_law_792 : decode cL_law 792 = .ok (.invokestatic 39, 3) := by decide +kernel
theorem dL_law_795 : decode cL_law 795 = .ok (.aload_n 2, 1) := by decide +kernel
theorem dL_law_796 : decode cL_law 796 = .ok (.iload 19, 2) := by decide +kernel
theorem dL_law_798 : decode cL_law 798 = .ok (.iload 22, 2) := by decide +kernel
theorem dL_law_800 : decode cL_law 800 = .ok (.iastore, 1) := by decide +kernel
theorem dL_law_801 : decode cL_law 801 = .ok (.aload 4, 2) := by decide +kernel
theorem dL_law_803 : decode cL_law 803 = .ok (.iload 19, 2) := by decide +kernel
theorem dL_law_805 : decode cL_law 805 = .ok (.aload 11, 2) := by decide +kernel
theorem dL_law_807 : decode cL_law 807 = .ok (.iconst 5, 1) := by decide +kernel
theorem dL_law_808 : decode cL_law 808 = .ok (.iaload, 1) := by decide +kernel
theorem dL_law_809 : decode cL_law 809 = .ok (.iload 22, 2) := by decide +kernel
theorem dL_law_811 : decode cL_law 811 = .ok (.invokestatic 16, 3) := by decide +kernel
theorem dL_law_814 : decode cL_law 814 = .ok (.iastore, 1) := by decide +kernel
theorem dL_law_815 : decode cL_law 815 = .ok (.aload 4, 2) := by decide +kernel
theorem dL_law_817 : decode cL_law 817 = .ok (.iload 19, 2) := by decide +kernel
theorem dL_law_819 : decode cL_law 819 = .ok (.iaload, 1) := by decide +kernel
theorem dL_law_820 : decode cL_law 820 = .ok (.istore 21, 2) := by decide +kernel
theorem dL_law_822 : decode cL_law 822 = .ok (.aload_n 1, 1) := by decide +kernel
theorem dL_law_823 : decode cL_law 823 = .ok (.iload 18, 2) := by decide +kernel
theorem dL_law_825 : decode cL_law 825 = .ok (.iload 20, 2) := by decide +kernel
theorem dL_law_827 : decode cL_law 827 = .ok (.invokevirtual 103, 3) := by decide +kernel
theorem dL_law_830 : decode cL_law 830 = .ok (.iload 21, 2) := by decide +kernel
theorem dL_law_832 : decode cL_law 832 = .ok (.if_icmp .ne 7, 3) := by decide +kernel
theorem dL_law_835 : decode cL_law 835 = .ok (.iconst 1, 1) := by decide +kernel
theorem dL_law_836 : decode cL_law 836 = .ok (.goto 4, 3) := by decide +kernel
theorem dL_law_839 : decode cL_law 839 = .ok (.iconst 0, 1) := by decide +kernel
theorem dL_law_840 : decode cL_law 840 = .ok (.istore 17, 2) := by decide +kernel
theorem dL_law_842 : decode cL_law 842 = .ok (.goto 330, 3) := by decide +kernel
theorem dL_law_845 : decode cL_law 845 = .ok (.iload 16, 2) := by decide +kernel
theorem dL_law_847 : decode cL_law 847 = .ok (.bipush 17, 2) := by decide +kernel
theorem dL_law_849 : decode cL_law 849 = .ok (.if_icmp .ge 96, 3) := by decide +kernel
theorem dL_law_852 : decode cL_law 852 = .ok (.iconst 1, 1) := by decide +kernel
theorem dL_law_853 : decode cL_law 853 = .ok (.iload 15, 2) := by decide +kernel
theorem dL_law_855 : decode cL_law 855 = .ok (.iconst 5, 1) := by decide +kernel
theorem dL_law_856 : decode cL_law 856 = .ok (.ishr, 1) := by decide +kernel
theorem dL_law_857 : decode cL_law 857 = .ok (.iload 15, 2) := by decide +kernel
theorem dL_law_859 : decode cL_law 859 = .ok (.bipush 25, 2) := by decide +kernel
theorem dL_law_861 : decode cL_law 861 = .ok (.ishr, 1) := by decide +kernel
theorem dL_law_862 : decode cL_law 862 = .ok (.iconst 4, 1) := by decide +kernel
theorem dL_law_863 : decode cL_law 863 = .ok (.invokestatic 81, 3) := by decide +kernel
theorem dL_law_866 : decode cL_law 866 = .ok (.ifCond .ne 8, 3) := by decide +kernel
theorem dL_law_869 : decode cL_law 869 = .ok (.bipush 9, 2) := by decide +kernel
theorem dL_law_871 : decode cL_law 871 = .ok (.goto 4, 3) := by decide +kernel
theorem dL_law_874 : decode cL_law 874 = .ok (.iconst 2, 1) := by decide +kernel
theorem dL_law_875 : decode cL_law 875 = .ok (.invokestatic 81, 3) := by decide +kernel
theorem dL_law_878 : decode cL_law 878 = .ok (.iadd, 1) := by decide +kernel
theorem dL_law_879 : decode cL_law 879 = .ok (.istore 18, 2) := by decide +kernel
theorem dL_law_881 : decode cL_law 881 = .ok (.iconst 0, 1) := by decide +kernel
theorem dL_law_882 : decode cL_law 882 = .ok (.istore 19, 2) := by decide +kernel
theorem dL_law_884 : decode cL_law 884 = .ok (.iconst 0, 1) := by decide +kernel
theorem dL_law_885 : decode cL_law 885 = .ok (.istore 20, 2) := by decide +kernel
theorem dL_law_887 : decode cL_law 887 = .ok (.iload 20, 2) := by decide +kernel
theorem dL_law_889 : decode cL_law 889 = .ok (.iload 18, 2) := by decide +kernel
theorem dL_law_891 : decode cL_law 891 = .ok (.if_icmp .ge 33, 3) := by decide +kernel
theorem dL_law_894 : decode cL_law 894 = .ok (.iload 19, 2) := by decide +kernel
theorem dL_law_896 : decode cL_law 896 = .ok (.aload_n 2, 1) := by decide +kernel
theorem dL_law_897 : decode cL_law 897 = .ok (.aload_n 3, 1) := by decide +kernel
theorem dL_law_898 : decode cL_law 898 = .ok (.aload 4, 2) := by decide +kernel
theorem dL_law_900 : decode cL_law 900 = .ok (.aload 5, 2) := by decide +kernel
theorem dL_law_902 : decode cL_law 902 = .ok (.aload 6, 2) := by decide +kernel
theorem dL_law_904 : decode cL_law 904 = .ok (.aload 7, 2) := by decide +kernel
theorem dL_law_906 : decode cL_law 906 = .ok (.aload 8, 2) := by decide +kernel
theorem dL_law_908 : decode cL_law 908 = .ok (.aload 10, 2) := by decide +kernel
theorem dL_law_910 : decode cL_law 910 = .ok (.aload 11, 2) := by decide +kernel
theorem dL_law_912 : decode cL_law 912 = .ok (.invokestatic 106, 3) := by decide +kernel
theorem dL_law_915 : decode cL_law 915 = .ok (.iadd, 1) := by decide +kernel
theorem dL_law_916 : decode cL_law 916 = .ok (.istore 19, 2) := by decide +kernel
theorem dL_law_918 : decode cL_law 918 = .ok (.iinc 20 1, 3) := by decide +kernel
theorem dL_law_921 : decode cL_law 921 = .ok (.goto (-34), 3) := by decide +kernel
theorem dL_law_924 : decode cL_law 924 = .ok (.aload_n 1, 1) := by decide +kernel
theorem dL_law_925 : decode cL_law 925 = .ok (.iload 18, 2) := by decide +kernel
theorem dL_law_927 : decode cL_law 927 = .ok (.invokevirtual 109, 3) := by decide +kernel
theorem dL_law_930 : decode cL_law 930 = .ok (.iload 19, 2) := by decide +kernel
theorem dL_law_932 : decode cL_law 932 = .ok (.if_icmp .ne 7, 3) := by decide +kernel
theorem dL_law_935 : decode cL_law 935 = .ok (.iconst 1, 1) := by decide +kernel
theorem dL_law_936 : decode cL_law 936 = .ok (.goto 4, 3) := by decide +kernel
theorem dL_law_939 : decode cL_law 939 = .ok (.iconst 0, 1) := by decide +kernel
theorem dL_law_940 : decode cL_law 940 = .ok (.istore 17, 2) := by decide +kernel
theorem dL_law_942 : decode cL_law 942 = .ok (.goto 230, 3) := by decide +kernel
theorem dL_law_945 : decode cL_law 945 = .ok (.iload 16, 2) := by decide +kernel
theorem dL_law_947 : decode cL_law 947 = .ok (.bipush 17, 2) := by decide +kernel
theorem dL_law_949 : decode cL_law 949 = .ok (.if_icmp .ne 91, 3) := by decide +kernel
theorem dL_law_952 : decode cL_law 952 = .ok (.iload 15, 2) := by decide +kernel
theorem dL_law_954 : decode cL_law 954 = .ok (.iconst 5, 1) := by decide +kernel
theorem dL_law_955 : decode cL_law 955 = .ok (.ishr, 1) := by decide +kernel
theorem dL_law_956 : decode cL_law 956 = .ok (.iload 15, 2) := by decide +kernel
theorem dL_law_958 : decode cL_law 958 = .ok (.bipush 25, 2) := by decide +kernel
theorem dL_law_960 : decode cL_law 960 = .ok (.ishr, 1) := by decide +kernel
theorem dL_law_961 : decode cL_law 961 = .ok (.iconst 2, 1) := by decide +kernel
theorem dL_law_962 : decode cL_law 962 = .ok (.invokestatic 81, 3) := by decide +kernel
theorem dL_law_965 : decode cL_law 965 = .ok (.ifCond .ne 8, 3) := by decide +kernel
theorem dL_law_968 : decode cL_law 968 = .ok (.bipush 10, 2) := by decide +kernel
theorem dL_law_970 : decode cL_law 970 = .ok (.goto 4, 3) := by decide +kernel
theorem dL_law_973 : decode cL_law 973 = .ok (.iconst 2, 1) := by decide +kernel
theorem dL_law_974 : decode cL_law 974 = .ok (.invokestatic 81, 3) := by decide +kernel
theorem dL_law_977 : decode cL_law 977 = .ok (.istore 18, 2) := by decide +kernel
theorem dL_law_979 : decode cL_law 979 = .ok (.aload 7, 2) := by decide +kernel
theorem dL_law_981 : decode cL_law 981 = .ok (.iload 18, 2) := by decide +kernel
theorem dL_law_983 : decode cL_law 983 = .ok (.iaload, 1) := by decide +kernel
theorem dL_law_984 : decode cL_law 984 = .ok (.ifCond .ne 22, 3) := by decide +kernel
theorem dL_law_987 : decode cL_law 987 = .ok (.aload_n 1, 1) := by decide +kernel
theorem dL_law_988 : decode cL_law 988 = .ok (.iload 18, 2) := by decide +kernel
theorem dL_law_990 : decode cL_law 990 = .ok (.invokevirtual 112, 3) := by decide +kernel
theorem dL_law_993 : decode cL_law 993 = .ok (.bipush (-3), 2) := by decide +kernel
theorem dL_law_995 : decode cL_law 995 = .ok (.if_icmp .ne 7, 3) := by decide +kernel
theorem dL_law_998 : decode cL_law 998 = .ok (.iconst 1, 1) := by decide +kernel
theorem dL_law_999 : decode cL_law 999 = .ok (.goto 36, 3) := by decide +kernel
theorem dL_law_1002 : decode cL_law 1002 = .ok (.iconst 0, 1) := by decide +kernel
theorem dL_law_1003 : decode cL_law 1003 = .ok (.goto 32, 3) := by decide +kernel
theorem dL_law_1006 : decode cL_law 1006 = .ok (.aload 7, 2) := by decide +kernel
theorem dL_law_1008 : decode cL_law 1008 = .ok (.aload 8, 2) := by decide +kernel
theorem dL_law_1010 : decode cL_law 1010 = .ok (.aload 10, 2) := by decide +kernel
theorem dL_law_1012 : decode cL_law 1012 = .ok (.aload 11, 2) := by decide +kernel
theorem dL_law_1014 : decode cL_law 1014 = .ok (.iload 18, 2) := by decide +kernel
theorem dL_law_1016 : decode cL_law 1016 = .ok (.bipush 6, 2) := by decide +kernel
theorem dL_law_1018 : decode cL_law 1018 = .ok (.invokestatic 32, 3) := by decide +kernel
theorem dL_law_1021 : decode cL_law 1021 = .ok (.aload_n 1, 1) := by decide +kernel
theorem dL_law_1022 : decode cL_law 1022 = .ok (.iload 18, 2) := by decide +kernel
theorem dL_law_1024 : decode cL_law 1024 = .ok (.invokevirtual 112, 3) := by decide +kernel
theorem dL_law_1027 : decode cL_law 1027 = .ok (.if_icmp .ne 7, 3) := by decide +kernel
theorem dL_law_1030 : decode cL_law 1030 = .ok (.iconst 1, 1) := by decide +kernel
theorem dL_law_1031 : decode cL_law 1031 = .ok (.goto 4, 3) := by decide +kernel
theorem dL_law_1034 : decode cL_law 1034 = .ok (.iconst 0, 1) := by decide +kernel
theorem dL_law_1035 : decode cL_law 1035 = .ok (.istore 17, 2) := by decide +kernel
theorem dL_law_1037 : decode cL_law 1037 = .ok (.goto 135, 3) := by decide +kernel
theorem dL_law_1040 : decode cL_law 1040 = .ok (.iload 15, 2) := by decide +kernel
theorem dL_law_1042 : decode cL_law 1042 = .ok (.iconst 5, 1) := by decide +kernel
theorem dL_law_1043 : decode cL_law 1043 = .ok (.ishr, 1) := by decide +kernel
theorem dL_law_1044 : decode cL_law 1044 = .ok (.iconst 5, 1) := by decide +kernel
theorem dL_law_1045 : decode cL_law 1045 = .ok (.invokestatic 81, 3) := by decide +kernel
theorem dL_law_1048 : decode cL_law 1048 = .ok (.istore 18, 2) := by decide +kernel
theorem dL_law_1050 : decode cL_law 1050 = .ok (.iload 18, 2) := by decide +kernel
theorem dL_law_1052 : decode cL_law 1052 = .ok (.ifCond .ne 16, 3) := by decide +kernel
theorem dL_law_1055 : decode cL_law 1055 = .ok (.iload 15, 2) := by decide +kernel
theorem dL_law_1057 : decode cL_law 1057 = .ok (.bipush 8, 2) := by decide +kernel
theorem dL_law_1059 : decode cL_law 1059 = .ok (.ishr, 1) := by decide +kernel
theorem dL_law_1060 : decode cL_law 1060 = .ok (.bipush 21, 2) := by decide +kernel
theorem dL_law_1062 : decode cL_law 1062 = .ok (.invokestatic 81, 3) := by decide +kernel
theorem dL_law_1065 : decode cL_law 1065 = .ok (.goto 64, 3) := by decide +kernel
theorem dL_law_1068 : decode cL_law 1068 = .ok (.iload 18, 2) := by decide +kernel
theorem dL_law_1070 : decode cL_law 1070 = .ok (.iconst 1, 1) := by decide +kernel
theorem dL_law_1071 : decode cL_law 1071 = .ok (.if_icmp .ne 16, 3) := by decide +kernel
theorem dL_law_1074 : decode cL_law 1074 = .ok (.iload 15, 2) := by decide +kernel
theorem dL_law_1076 : decode cL_law 1076 = .ok (.bipush 8, 2) := by decide +kernel
theorem dL_law_1078 : decode cL_law 1078 = .ok (.ishr, 1) := by decide +kernel
theorem dL_law_1079 : decode cL_law 1079 = .ok (.bipush 10, 2) := by decide +kernel
theorem dL_law_1081 : decode cL_law 1081 = .ok (.invokestatic 81, 3) := by decide +kernel
theorem dL_law_1084 : decode cL_law 1084 = .ok (.goto 45, 3) := by decide +kernel
theorem dL_law_1087 : decode cL_law 1087 = .ok (.iload 18, 2) := by decide +kernel
theorem dL_law_1089 : decode cL_law 1089 = .ok (.iconst 2, 1) := by decide +kernel
theorem dL_law_1090 : decode cL_law 1090 = .ok (.if_icmp .ne 16, 3) := by decide +kernel
theorem dL_law_1093 : decode cL_law 1093 = .ok (.iload 15, 2) := by decide +kernel
theorem dL_law_1095 : decode cL_law 1095 = .ok (.bipush 8, 2) := by decide +kernel
theorem dL_law_1097 : decode cL_law 1097 = .ok (.ishr, 1) := by decide +kernel
theorem dL_law_1098 : decode cL_law 1098 = .ok (.bipush 51, 2) := by decide +kernel
theorem dL_law_1100 : decode cL_law 1100 = .ok (.invokestatic 81, 3) := by decide +kernel
theorem dL_law_1103 : decode cL_law 1103 = .ok (.goto 26, 3) := by decide +kernel
theorem dL_law_1106 : decode cL_law 1106 = .ok (.iconst 1, 1) := by decide +kernel
theorem dL_law_1107 : decode cL_law 1107 = .ok (.iload 15, 2) := by decide +kernel
theorem dL_law_1109 : decode cL_law 1109 = .ok (.bipush 8, 2) := by decide +kernel
theorem dL_law_1111 : decode cL_law 1111 = .ok (.ishr, 1) := by decide +kernel
theorem dL_law_1112 : decode cL_law 1112 = .ok (.iload 18, 2) := by decide +kernel
theorem dL_law_1114 : decode cL_law 1114 = .ok (.iconst 3, 1) := by decide +kernel
theorem dL_law_1115 : decode cL_law 1115 = .ok (.if_icmp .ne 8, 3) := by decide +kernel
theorem dL_law_1118 : decode cL_law 1118 = .ok (.bipush 20, 2) := by decide +kernel
theorem dL_law_1120 : decode cL_law 1120 = .ok (.goto 5, 3) := by decide +kernel
theorem dL_law_1123 : decode cL_law 1123 = .ok (.bipush 9, 2) := by decide +kernel
theorem dL_law_1125 : decode cL_law 1125 = .ok (.invokestatic 81, 3) := by decide +kernel
theorem dL_law_1128 : decode cL_law 1128 = .ok (.iadd, 1) := by decide +kernel
theorem dL_law_1129 : decode cL_law 1129 = .ok (.istore 19, 2) := by decide +kernel
theorem dL_law_1131 : decode cL_law 1131 = .ok (.aload_n 1, 1) := by decide +kernel
theorem dL_law_1132 : decode cL_law 1132 = .ok (.iload 18, 2) := by decide +kernel
theorem dL_law_1134 : decode cL_law 1134 = .ok (.iload 19, 2) := by decide +kernel
theorem dL_law_1136 : decode cL_law 1136 = .ok (.invokevirtual 115, 3) := by decide +kernel
theorem dL_law_1139 : decode cL_law 1139 = .ok (.aload 11, 2) := by decide +kernel
theorem dL_law_1141 : decode cL_law 1141 = .ok (.iload 18, 2) := by decide +kernel
theorem dL_law_1143 : decode cL_law 1143 = .ok (.iaload, 1) := by decide +kernel
theorem dL_law_1144 : decode cL_law 1144 = .ok (.if_icmp .ne 18, 3) := by decide +kernel
theorem dL_law_1147 : decode cL_law 1147 = .ok (.aload_n 1, 1) := by decide +kernel
theorem dL_law_1148 : decode cL_law 1148 = .ok (.iload 18, 2) := by decide +kernel
theorem dL_law_1150 : decode cL_law 1150 = .ok (.invokevirtual 118, 3) := by decide +kernel
theorem dL_law_1153 : decode cL_law 1153 = .ok (.iload 19, 2) := by decide +kernel
theorem dL_law_1155 : decode cL_law 1155 = .ok (.if_icmp .ne 7, 3) := by decide +kernel
theorem dL_law_1158 : decode cL_law 1158 = .ok (.iconst 1, 1) := by decide +kernel
theorem dL_law_1159 : decode cL_law 1159 = .ok (.goto 4, 3) := by decide +kernel
theorem dL_law_1162 : decode cL_law 1162 = .ok (.iconst 0, 1) := by decide +kernel
theorem dL_law_1163 : decode cL_law 1163 = .ok (.istore 17, 2) := by decide +kernel
theorem dL_law_1165 : decode cL_law 1165 = .ok (.aload 11, 2) := by decide +kernel
theorem dL_law_1167 : decode cL_law 1167 = .ok (.iload 18, 2) := by decide +kernel
theorem dL_law_1169 : decode cL_law 1169 = .ok (.iload 19, 2) := by decide +kernel
theorem dL_law_1171 : decode cL_law 1171 = .ok (.iastore, 1) := by decide +kernel
theorem dL_law_1172 : decode cL_law 1172 = .ok (.iload 17, 2) := by decide +kernel
theorem dL_law_1174 : decode cL_law 1174 = .ok (.ifCond .eq 48, 3) := by decide +kernel
theorem dL_law_1177 : decode cL_law 1177 = .ok (.aload_n 1, 1) := by decide +kernel
theorem dL_law_1178 : decode cL_law 1178 = .ok (.iconst 0, 1) := by decide +kernel
theorem dL_law_1179 : decode cL_law 1179 = .ok (.invokevirtual 121, 3) := by decide +kernel
theorem dL_law_1182 : decode cL_law 1182 = .ok (.iload 12, 2) := by decide +kernel
theorem dL_law_1184 : decode cL_law 1184 = .ok (.if_icmp .ne 38, 3) := by decide +kernel
theorem dL_law_1187 : decode cL_law 1187 = .ok (.aload_n 1, 1) := by decide +kernel
theorem dL_law_1188 : decode cL_law 1188 = .ok (.iconst 1, 1) := by decide +kernel
theorem dL_law_1189 : decode cL_law 1189 = .ok (.invokevirtual 121, 3) := by decide +kernel
theorem dL_law_1192 : decode cL_law 1192 = .ok (.iload 13, 2) := by decide +kernel
theorem dL_law_1194 : decode cL_law 1194 = .ok (.if_icmp .ne 28, 3) := by decide +kernel
theorem dL_law_1197 : decode cL_law 1197 = .ok (.aload_n 1, 1) := by decide +kernel
theorem dL_law_1198 : decode cL_law 1198 = .ok (.aload_n 2, 1) := by decide +kernel
theorem dL_law_1199 : decode cL_law 1199 = .ok (.aload_n 3, 1) := by decide +kernel
theorem dL_law_1200 : decode cL_law 1200 = .ok (.aload 4, 2) := by decide +kernel
theorem dL_law_1202 : decode cL_law 1202 = .ok (.aload 5, 2) := by decide +kernel
theorem dL_law_1204 : decode cL_law 1204 = .ok (.aload 6, 2) := by decide +kernel
theorem dL_law_1206 : decode cL_law 1206 = .ok (.aload 7, 2) := by decide +kernel
theorem dL_law_1208 : decode cL_law 1208 = .ok (.aload 8, 2) := by decide +kernel
theorem dL_law_1210 : decode cL_law 1210 = .ok (.aload 9, 2) := by decide +kernel
theorem dL_law_1212 : decode cL_law 1212 = .ok (.aload 10, 2) := by decide +kernel
theorem dL_law_1214 : decode cL_law 1214 = .ok (.aload 11, 2) := by decide +kernel
theorem dL_law_1216 : decode cL_law 1216 = .ok (.invokestatic 124, 3) := by decide +kernel
theorem dL_law_1219 : decode cL_law 1219 = .ok (.ifCond .ne 5, 3) := by decide +kernel
theorem dL_law_1222 : decode cL_law 1222 = .ok (.iconst 0, 1) := by decide +kernel
theorem dL_law_1223 : decode cL_law 1223 = .ok (.ireturn, 1) := by decide +kernel
theorem dL_law_1224 : decode cL_law 1224 = .ok (.aload_n 0, 1) := by decide +kernel
theorem dL_law_1225 : decode cL_law 1225 = .ok (.bipush 70, 2) := by decide +kernel
theorem dL_law_1227 : decode cL_law 1227 = .ok (.iload 14, 2) := by decide +kernel
theorem dL_law_1229 : decode cL_law 1229 = .ok (.iadd, 1) := by decide +kernel
theorem dL_law_1230 : decode cL_law 1230 = .ok (.invokestatic 85, 3) := by decide +kernel
theorem dL_law_1233 : decode cL_law 1233 = .ok (.istore 18, 2) := by decide +kernel
theorem dL_law_1235 : decode cL_law 1235 = .ok (.iload 18, 2) := by decide +kernel
theorem dL_law_1237 : decode cL_law 1237 = .ok (.bipush 7, 2) := by decide +kernel
theorem dL_law_1239 : decode cL_law 1239 = .ok (.invokestatic 81, 3) := by decide +kernel
theorem dL_law_1242 : decode cL_law 1242 = .ok (.bipush 7, 2) := by decide +kernel
theorem dL_law_1244 : decode cL_law 1244 = .ok (.iload 18, 2) := by decide +kernel
theorem dL_law_1246 : decode cL_law 1246 = .ok (.iconst 3, 1) := by decide +kernel
theorem dL_law_1247 : decode cL_law 1247 = .ok (.ishr, 1) := by decide +kernel
theorem dL_law_1248 : decode cL_law 1248 = .ok (.bipush 90, 2) := by decide +kernel
theorem dL_law_1250 : decode cL_law 1250 = .ok (.invokestatic 81, 3) := by decide +kernel
theorem dL_law_1253 : decode cL_law 1253 = .ok (.imul, 1) := by decide +kernel
theorem dL_law_1254 : decode cL_law 1254 = .ok (.iadd, 1) := by decide +kernel
theorem dL_law_1255 : decode cL_law 1255 = .ok (.iload 18, 2) := by decide +kernel
theorem dL_law_1257 : decode cL_law 1257 = .ok (.bipush 10, 2) := by decide +kernel
theorem dL_law_1259 : decode cL_law 1259 = .ok (.ishr, 1) := by decide +kernel
theorem dL_law_1260 : decode cL_law 1260 = .ok (.bipush 48, 2) := by decide +kernel
theorem dL_law_1262 : decode cL_law 1262 = .ok (.invokestatic 81, 3) := by decide +kernel
theorem dL_law_1265 : decode cL_law 1265 = .ok (.invokestatic 16, 3) := by decide +kernel
theorem dL_law_1268 : decode cL_law 1268 = .ok (.istore 19, 2) := by decide +kernel
theorem dL_law_1270 : decode cL_law 1270 = .ok (.aload 5, 2) := by decide +kernel
theorem dL_law_1272 : decode cL_law 1272 = .ok (.aload 6, 2) := by decide +kernel
theorem dL_law_1274 : decode cL_law 1274 = .ok (.aload 11, 2) := by decide +kernel
theorem dL_law_1276 : decode cL_law 1276 = .ok (.iload 19, 2) := by decide +kernel
theorem dL_law_1278 : decode cL_law 1278 = .ok (.invokestatic 20, 3) := by decide +kernel
theorem dL_law_1281 : decode cL_law 1281 = .ok (.istore 20, 2) := by decide +kernel
theorem dL_law_1283 : decode cL_law 1283 = .ok (.aload_n 1, 1) := by decide +kernel
theorem dL_law_1284 : decode cL_law 1284 = .ok (.iload 18, 2) := by decide +kernel
theorem dL_law_1286 : decode cL_law 1286 = .ok (.bipush 7, 2) := by decide +kernel
theorem dL_law_1288 : decode cL_law 1288 = .ok (.invokestatic 81, 3) := by decide +kernel
theorem dL_law_1291 : decode cL_law 1291 = .ok (.bipush 7, 2) := by decide +kernel
theorem dL_law_1293 : decode cL_law 1293 = .ok (.iload 18, 2) := by decide +kernel
theorem dL_law_1295 : decode cL_law 1295 = .ok (.iconst 3, 1) := by decide +kernel
theorem dL_law_1296 : decode cL_law 1296 = .ok (.ishr, 1) := by decide +kernel
theorem dL_law_1297 : decode cL_law 1297 = .ok (.bipush 90, 2) := by decide +kernel
theorem dL_law_1299 : decode cL_law 1299 = .ok (.invokestatic 81, 3) := by decide +kernel
theorem dL_law_1302 : decode cL_law 1302 = .ok (.imul, 1) := by decide +kernel
theorem dL_law_1303 : decode cL_law 1303 = .ok (.iadd, 1) := by decide +kernel
theorem dL_law_1304 : decode cL_law 1304 = .ok (.iload 18, 2) := by decide +kernel
theorem dL_law_1306 : decode cL_law 1306 = .ok (.bipush 10, 2) := by decide +kernel
theorem dL_law_1308 : decode cL_law 1308 = .ok (.ishr, 1) := by decide +kernel
theorem dL_law_1309 : decode cL_law 1309 = .ok (.bipush 48, 2) := by decide +kernel
theorem dL_law_1311 : decode cL_law 1311 = .ok (.invokestatic 81, 3) := by decide +kernel
theorem dL_law_1314 : decode cL_law 1314 = .ok (.bipush 8, 2) := by decide +kernel
theorem dL_law_1316 : decode cL_law 1316 = .ok (.idiv, 1) := by decide +kernel
theorem dL_law_1317 : decode cL_law 1317 = .ok (.iload 18, 2) := by decide +kernel
theorem dL_law_1319 : decode cL_law 1319 = .ok (.bipush 10, 2) := by decide +kernel
theorem dL_law_1321 : decode cL_law 1321 = .ok (.ishr, 1) := by decide +kernel
theorem dL_law_1322 : decode cL_law 1322 = .ok (.bipush 48, 2) := by decide +kernel
theorem dL_law_1324 : decode cL_law 1324 = .ok (.invokestatic 81, 3) := by decide +kernel
theorem dL_law_1327 : decode cL_law 1327 = .ok (.bipush 8, 2) := by decide +kernel
theorem dL_law_1329 : decode cL_law 1329 = .ok (.irem, 1) := by decide +kernel
theorem dL_law_1330 : decode cL_law 1330 = .ok (.invokevirtual 128, 3) := by decide +kernel
theorem dL_law_1333 : decode cL_law 1333 = .ok (.iload 19, 2) := by decide +kernel
theorem dL_law_1335 : decode cL_law 1335 = .ok (.if_icmp .ne 72, 3) := by decide +kernel
theorem dL_law_1338 : decode cL_law 1338 = .ok (.aload_n 1, 1) := by decide +kernel
theorem dL_law_1339 : decode cL_law 1339 = .ok (.iload 19, 2) := by decide +kernel
theorem dL_law_1341 : decode cL_law 1341 = .ok (.invokevirtual 131, 3) := by decide +kernel
theorem dL_law_1344 : decode cL_law 1344 = .ok (.iload 20, 2) := by decide +kernel
theorem dL_law_1346 : decode cL_law 1346 = .ok (.aload 11, 2) := by decide +kernel
theorem dL_law_1348 : decode cL_law 1348 = .ok (.iconst 5, 1) := by decide +kernel
theorem dL_law_1349 : decode cL_law 1349 = .ok (.iaload, 1) := by decide +kernel
theorem dL_law_1350 : decode cL_law 1350 = .ok (.if_icmp .le 8, 3) := by decide +kernel
theorem dL_law_1353 : decode cL_law 1353 = .ok (.iload 20, 2) := by decide +kernel
theorem dL_law_1355 : decode cL_law 1355 = .ok (.goto 5, 3) := by decide +kernel
theorem dL_law_1358 : decode cL_law 1358 = .ok (.bipush (-6), 2) := by decide +kernel
theorem dL_law_1360 : decode cL_law 1360 = .ok (.if_icmp .ne 47, 3) := by decide +kernel
theorem dL_law_1363 : decode cL_law 1363 = .ok (.aload_n 1, 1) := by decide +kernel
theorem dL_law_1364 : decode cL_law 1364 = .ok (.iload 19, 2) := by decide +kernel
theorem dL_law_1366 : decode cL_law 1366 = .ok (.invokevirtual 55, 3) := by decide +kernel
theorem dL_law_1369 : decode cL_law 1369 = .ok (.iconst 1, 1) := by decide +kernel
theorem dL_law_1370 : decode cL_law 1370 = .ok (.if_icmp .ne 37, 3) := by decide +kernel
theorem dL_law_1373 : decode cL_law 1373 = .ok (.aload_n 1, 1) := by decide +kernel
theorem dL_law_1374 : decode cL_law 1374 = .ok (.iload 19, 2) := by decide +kernel
theorem dL_law_1376 : decode cL_law 1376 = .ok (.bipush 10, 2) := by decide +kernel
theorem dL_law_1378 : decode cL_law 1378 = .ok (.idiv, 1) := by decide +kernel
theorem dL_law_1379 : decode cL_law 1379 = .ok (.bipush 10, 2) := by decide +kernel
theorem dL_law_1381 : decode cL_law 1381 = .ok (.imul, 1) := by decide +kernel
theorem dL_law_1382 : decode cL_law 1382 = .ok (.iload 19, 2) := by decide +kernel
theorem dL_law_1384 : decode cL_law 1384 = .ok (.iconst 1, 1) := by decide +kernel
theorem dL_law_1385 : decode cL_law 1385 = .ok (.iadd, 1) := by decide +kernel
theorem dL_law_1386 : decode cL_law 1386 = .ok (.iload 18, 2) := by decide +kernel
theorem dL_law_1388 : decode cL_law 1388 = .ok (.bipush 17, 2) := by decide +kernel
theorem dL_law_1390 : decode cL_law 1390 = .ok (.ishr, 1) := by decide +kernel
theorem dL_law_1391 : decode cL_law 1391 = .ok (.bipush 9, 2) := by decide +kernel
theorem dL_law_1393 : decode cL_law 1393 = .ok (.invokestatic 81, 3) := by decide +kernel
theorem dL_law_1396 : decode cL_law 1396 = .ok (.iadd, 1) := by decide +kernel
theorem dL_law_1397 : decode cL_law 1397 = .ok (.bipush 10, 2) := by decide +kernel
theorem dL_law_1399 : decode cL_law 1399 = .ok (.irem, 1) := by decide +kernel
theorem dL_law_1400 : decode cL_law 1400 = .ok (.iadd, 1) := by decide +kernel
theorem dL_law_1401 : decode cL_law 1401 = .ok (.invokevirtual 55, 3) := by decide +kernel
theorem dL_law_1404 : decode cL_law 1404 = .ok (.ifCond .eq 5, 3) := by decide +kernel
theorem dL_law_1407 : decode cL_law 1407 = .ok (.iconst 0, 1) := by decide +kernel
theorem dL_law_1408 : decode cL_law 1408 = .ok (.ireturn, 1) := by decide +kernel
theorem dL_law_1409 : decode cL_law 1409 = .ok (.aload 11, 2) := by decide +kernel
theorem dL_law_1411 : decode cL_law 1411 = .ok (.bipush 7, 2) := by decide +kernel
theorem dL_law_1413 : decode cL_law 1413 = .ok (.iaload, 1) := by decide +kernel
theorem dL_law_1414 : decode cL_law 1414 = .ok (.ifCond .le 96, 3) := by decide +kernel
theorem dL_law_1417 : decode cL_law 1417 = .ok (.iload 18, 2) := by decide +kernel
theorem dL_law_1419 : decode cL_law 1419 = .ok (.bipush 20, 2) := by decide +kernel
theorem dL_law_1421 : decode cL_law 1421 = .ok (.ishr, 1) := by decide +kernel
theorem dL_law_1422 : decode cL_law 1422 = .ok (.aload 11, 2) := by decide +kernel
theorem dL_law_1424 : decode cL_law 1424 = .ok (.bipush 7, 2) := by decide +kernel
theorem dL_law_1426 : decode cL_law 1426 = .ok (.iaload, 1) := by decide +kernel
theorem dL_law_1427 : decode cL_law 1427 = .ok (.invokestatic 81, 3) := by decide +kernel
theorem dL_law_1430 : decode cL_law 1430 = .ok (.istore 21, 2) := by decide +kernel
theorem dL_law_1432 : decode cL_law 1432 = .ok (.aload_n 2, 1) := by decide +kernel
theorem dL_law_1433 : decode cL_law 1433 = .ok (.iload 21, 2) := by decide +kernel
theorem dL_law_1435 : decode cL_law 1435 = .ok (.iaload, 1) := by decide +kernel
theorem dL_law_1436 : decode cL_law 1436 = .ok (.ifCond .lt 25, 3) := by decide +kernel
theorem dL_law_1439 : decode cL_law 1439 = .ok (.aload_n 2, 1) := by decide +kernel
theorem dL_law_1440 : decode cL_law 1440 = .ok (.aload 4, 2) := by decide +kernel
theorem dL_law_1442 : decode cL_law 1442 = .ok (.aload 11, 2) := by decide +kernel
theorem dL_law_1444 : decode cL_law 1444 = .ok (.aload 4, 2) := by decide +kernel
theorem dL_law_1446 : decode cL_law 1446 = .ok (.iload 21, 2) := by decide +kernel
theorem dL_law_1448 : decode cL_law 1448 = .ok (.iaload, 1) := by decide +kernel
theorem dL_law_1449 : decode cL_law 1449 = .ok (.invokestatic 94, 3) := by decide +kernel
theorem dL_law_1452 : decode cL_law 1452 = .ok (.iload 21, 2) := by decide +kernel
theorem dL_law_1454 : decode cL_law 1454 = .ok (.if_icmp .ne 7, 3) := by decide +kernel
theorem dL_law_1457 : decode cL_law 1457 = .ok (.iconst 1, 1) := by decide +kernel
theorem dL_law_1458 : decode cL_law 1458 = .ok (.goto 4, 3) := by decide +kernel
theorem dL_law_1461 : decode cL_law 1461 = .ok (.iconst 0, 1) := by decide +kernel
theorem dL_law_1462 : decode cL_law 1462 = .ok (.istore 22, 2) := by decide +kernel
theorem dL_law_1464 : decode cL_law 1464 = .ok (.iload 22, 2) := by decide +kernel
theorem dL_law_1466 : decode cL_law 1466 = .ok (.ifCond .eq 44, 3) := by decide +kernel
theorem dL_law_1469 : decode cL_law 1469 = .ok (.aload_n 1, 1) := by decide +kernel
theorem dL_law_1470 : decode cL_law 1470 = .ok (.aload 4, 2) := by decide +kernel
theorem dL_law_1472 : decode cL_law 1472 = .ok (.iload 21, 2) := by decide +kernel
theorem dL_law_1474 : decode cL_law 1474 = .ok (.iaload, 1) := by decide +kernel
theorem dL_law_1475 : decode cL_law 1475 = .ok (.iload 18, 2) := by decide +kernel
theorem dL_law_1477 : decode cL_law 1477 = .ok (.bipush 30, 2) := by decide +kernel
theorem dL_law_1479 : decode cL_law 1479 = .ok (.invokestatic 81, 3) := by decide +kernel
theorem dL_law_1482 : decode cL_law 1482 = .ok (.invokevirtual 134, 3) := by decide +kernel
theorem dL_law_1485 : decode cL_law 1485 = .ok (.aload_n 3, 1) := by decide +kernel
theorem dL_law_1486 : decode cL_law 1486 = .ok (.aload 11, 2) := by decide +kernel
theorem dL_law_1488 : decode cL_law 1488 = .ok (.iload 21, 2) := by decide +kernel
theorem dL_law_1490 : decode cL_law 1490 = .ok (.aload 11, 2) := by decide +kernel
theorem dL_law_1492 : decode cL_law 1492 = .ok (.iconst 5, 1) := by decide +kernel
theorem dL_law_1493 : decode cL_law 1493 = .ok (.iaload, 1) := by decide +kernel
theorem dL_law_1494 : decode cL_law 1494 = .ok (.iload 18, 2) := by decide +kernel
theorem dL_law_1496 : decode cL_law 1496 = .ok (.bipush 30, 2) := by decide +kernel
theorem dL_law_1498 : decode cL_law 1498 = .ok (.invokestatic 81, 3) := by decide +kernel
theorem dL_law_1501 : decode cL_law 1501 = .ok (.iadd, 1) := by decide +kernel
theorem dL_law_1502 : decode cL_law 1502 = .ok (.invokestatic 43, 3) := by decide +kernel
theorem dL_law_1505 : decode cL_law 1505 = .ok (.if_icmp .eq 5, 3) := by decide +kernel
theorem dL_law_1508 : decode cL_law 1508 = .ok (.iconst 0, 1) := by decide +kernel
theorem dL_law_1509 : decode cL_law 1509 = .ok (.ireturn, 1) := by decide +kernel
theorem dL_law_1510 : decode cL_law 1510 = .ok (.iinc 14 1, 3) := by decide +kernel
theorem dL_law_1513 : decode cL_law 1513 = .ok (.goto (-1409), 3) := by decide +kernel
theorem dL_law_1516 : decode cL_law 1516 = .ok (.iconst 1, 1) := by decide +kernel
theorem dL_law_1517 : decode cL_law 1517 = .ok (.ireturn, 1) := by decide +kernel
abbrev vwCl : List vw_C := [(RX0, TX0, 3), (RX1, TX1, 14), (RX2, TX2, 2), (RX3, TX3, 8)]
