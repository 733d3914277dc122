theorem dX5_reachTold_1 : decode cX5_reachTold 1 = .ok (.ifCond .ne 13, 3) := by decide +kernel
theorem dX5_reachTold_4 : decode cX5_reachTold 4 = .ok (.aload_n 0, 1) := by decide +kernel
theorem dX5_reachTold_5 : decode cX5_reachTold 5 = .ok (.getfield 43, 3) := by decide +kernel
theorem dX5_reachTold_8 : decode cX5_reachTold 8 = .ok (.getfield 50, 3) := by decide +kernel
theorem dX5_reachTold_11 : decode cX5_reachTold 11 = .ok (.iload_n 1, 1) := by decide +kernel
theorem dX5_reachTold_12 : decode cX5_reachTold 12 = .ok (.iaload, 1) := by decide +kernel
theorem dX5_reachTold_13 : decode cX5_reachTold 13 = .ok (.ireturn, 1) := by decide +kernel
theorem dX5_reachTold_14 : decode cX5_reachTold 14 = .ok (.iconst 0, 1) := by decide +kernel
theorem dX5_reachTold_15 : decode cX5_reachTold 15 = .ok (.istore_n 3, 1) := by decide +kernel
theorem dX5_reachTold_16 : decode cX5_reachTold 16 = .ok (.iconst 0, 1) := by decide +kernel
theorem dX5_reachTold_17 : decode cX5_reachTold 17 = .ok (.istore 4, 2) := by decide +kernel
theorem dX5_reachTold_19 : decode cX5_reachTold 19 = .ok (.iload 4, 2) := by decide +kernel
theorem dX5_reachTold_21 : decode cX5_reachTold 21 = .ok (.aload_n 0, 1) := by decide +kernel
theorem dX5_reachTold_22 : decode cX5_reachTold 22 = .ok (.getfield 56, 3) := by decide +kernel
theorem dX5_reachTold_25 : decode cX5_reachTold 25 = .ok (.if_icmp .ge 44, 3) := by decide +kernel
theorem dX5_reachTold_28 : decode cX5_reachTold 28 = .ok (.iload_n 3, 1) := by decide +kernel
theorem dX5_reachTold_29 : decode cX5_reachTold 29 = .ok (.aload_n 0, 1) := by decide +kernel
theorem dX5_reachTold_30 : decode cX5_reachTold 30 = .ok (.getfield 43, 3) := by decide +kernel
theorem dX5_reachTold_33 : decode cX5_reachTold 33 = .ok (.getfield 90, 3) := by decide +kernel
theorem dX5_reachTold_36 : decode cX5_reachTold 36 = .ok (.iload 4, 2) := by decide +kernel
theorem dX5_reachTold_38 : decode cX5_reachTold 38 = .ok (.baload, 1) := by decide +kernel
theorem dX5_reachTold_39 : decode cX5_reachTold 39 = .ok (.ifCond .ne 21, 3) := by decide +kernel
theorem dX5_reachTold_42 : decode cX5_reachTold 42 = .ok (.aload_n 0, 1) := by decide +kernel
theorem dX5_reachTold_43 : decode cX5_reachTold 43 = .ok (.getfield 43, 3) := by decide +kernel
theorem dX5_reachTold_46 : decode cX5_reachTold 46 = .ok (.getfield 94, 3) := by decide +kernel
theorem dX5_reachTold_49 : decode cX5_reachTold 49 = .ok (.iload 4, 2) := by decide +kernel
theorem dX5_reachTold_51 : decode cX5_reachTold 51 = .ok (.iaload, 1) := by decide +kernel
theorem dX5_reachTold_52 : decode cX5_reachTold 52 = .ok (.iload_n 1, 1) := by decide +kernel
theorem dX5_reachTold_53 : decode cX5_reachTold 53 = .ok (.if_icmp .ne 7, 3) := by decide +kernel
theorem dX5_reachTold_56 : decode cX5_reachTold 56 = .ok (.iconst 1, 1) := by decide +kernel
theorem dX5_reachTold_57 : decode cX5_reachTold 57 = .ok (.goto 4, 3) := by decide +kernel
theorem dX5_reachTold_60 : decode cX5_reachTold 60 = .ok (.iconst 0, 1) := by decide +kernel
theorem dX5_reachTold_61 : decode cX5_reachTold 61 = .ok (.iadd, 1) := by decide +kernel
theorem dX5_reachTold_62 : decode cX5_reachTold 62 = .ok (.istore_n 3, 1) := by decide +kernel
theorem dX5_reachTold_63 : decode cX5_reachTold 63 = .ok (.iinc 4 1, 3) := by decide +kernel
theorem dX5_reachTold_66 : decode cX5_reachTold 66 = .ok (.goto (-47), 3) := by decide +kernel
theorem dX5_reachTold_69 : decode cX5_reachTold 69 = .ok (.iload_n 3, 1) := by decide +kernel
theorem dX5_reachTold_70 : decode cX5_reachTold 70 = .ok (.ireturn, 1) := by decide +kernel
set_option maxRecDepth 20000 in
theorem ggX5_reach_X5_isIn : GoodIn wsX5_reach wsX5_isIn := goodIn_r _ [5] (by decide +kernel) (by decide +kernel)
set_option maxRecDepth 20000 in
theorem gX5_reach_X5_isIn : GoodIn wsX5_reach (va_wsS RX5 59 yX5_isIn wsX5_isIn) := goodIn_app (goodIn_of _ (by decide +kernel)) ggX5_reach_X5_isIn
set_option maxRecDepth 20000 in
theorem ggX5_reach_X5_reachTold : GoodIn wsX5_reach wsX5_reachTold := goodIn_r _ [9, 10, 11, 16, 17, 18, 19, 20, 21, 22, 23, 24, 25, 26, 27, 28, 29, 30, 31, 32, 33, 34, 35, 36, 37, 38, 39, 40, 41, 42] (by decide +kernel) (by decide +kernel)
set_option maxRecDepth 20000 in
theorem gX5_reach_X5_reachTold : GoodIn wsX5_reach (wsV RX5 128 RX5 yX5_reachTold wsX5_reachTold) := goodIn_app (goodIn_of _ (by decide +kernel)) ggX5_reach_X5_reachTold
set_option maxRecDepth 20000 in
theorem ggX5_reach_X5_no : GoodIn wsX5_reach wsX5_no := goodIn_r _ [15, 1, 16, 17, 18, 19, 20, 21, 22, 23, 24, 25, 26, 27, 28, 29] (by decide +kernel) (by decide +kernel)
set_option maxRecDepth 20000 in
theorem gX5_reach_X5_no : GoodIn wsX5_reach (wsV RX5 66 RX5 yX5_no wsX5_no) := goodIn_app (goodIn_of _ (by decide +kernel)) ggX5_reach_X5_no
theorem dX5_reach_0 : decode cX5_reach 0 = .ok (.aload_n 0, 1) := by decide +kernel
theorem dX5_reach_1 : decode cX5_reach 1 = .ok (.iconst 0, 1) := by decide +kernel
theorem dX5_reach_2 : decode cX5_reach 2 = .ok (.putfield 53, 3) := by decide +kernel
theorem dX5_reach_5 : decode cX5_reach 5 = .ok (.iload_n 1, 1) := by decide +kernel
theorem dX5_reach_6 : decode cX5_reach 6 = .ok (.iconst 0, 1) := by decide +kernel
theorem dX5_reach_7 : decode cX5_reach 7 = .ok (.bipush 15, 2) := by decide +kernel
theorem dX5_reach_9 : decode cX5_reach 9 = .ok (.invokestatic 59, 3) := by decide +kernel
theorem dX5_reach_12 : decode cX5_reach 12 = .ok (.ifCond .eq 21, 3) := by decide +kernel
theorem dX5_reach_15 : decode cX5_reach 15 = .ok (.iload_n 2, 1) := by decide +kernel
theorem dX5_reach_16 : decode cX5_reach 16 = .ok (.iconst 0, 1) := by decide +kernel
theorem dX5_reach_17 : decode cX5_reach 17 = .ok (.iconst 1, 1) := by decide +kernel
theorem dX5_reach_18 : decode cX5_reach 18 = .ok (.invokestatic 59, 3) := by decide +kernel
theorem dX5_reach_21 : decode cX5_reach 21 = .ok (.ifCond .eq 12, 3) := by decide +kernel
theorem dX5_reach_24 : decode cX5_reach 24 = .ok (.aload_n 0, 1) := by decide +kernel
theorem dX5_reach_25 : decode cX5_reach 25 = .ok (.iload_n 1, 1) := by decide +kernel
theorem dX5_reach_26 : decode cX5_reach 26 = .ok (.iload_n 2, 1) := by decide +kernel
theorem dX5_reach_27 : decode cX5_reach 27 = .ok (.invokevirtual 128, 3) := by decide +kernel
theorem dX5_reach_30 : decode cX5_reach 30 = .ok (.goto 8, 3) := by decide +kernel
theorem dX5_reach_33 : decode cX5_reach 33 = .ok (.aload_n 0, 1) := by decide +kernel
theorem dX5_reach_34 : decode cX5_reach 34 = .ok (.iconst 1, 1) := by decide +kernel
theorem dX5_reach_35 : decode cX5_reach 35 = .ok (.invokevirtual 66, 3) := by decide +kernel
theorem dX5_reach_38 : decode cX5_reach 38 = .ok (.ireturn, 1) := by decide +kernel
set_option maxRecDepth 20000 in
theorem ggX5_count_X5_isIn : GoodIn wsX5_count wsX5_isIn := goodIn_r _ [6] (by decide +kernel) (by decide +kernel)
set_option maxRecDepth 20000 in
theorem gX5_count_X5_isIn : GoodIn wsX5_count (va_wsS RX5 59 yX5_isIn wsX5_isIn) := goodIn_app (goodIn_of _ (by decide +kernel)) ggX5_count_X5_isIn
set_option maxRecDepth 20000 in
theorem ggX5_count_X4_counted : GoodIn wsX5_count wsX4_counted := goodIn_r _ [11, 12, 13, 14, 15, 16, 17, 18, 19, 20, 21, 10, 22, 23, 24, 25, 26, 27, 46, 47, 48, 49, 50, 51, 52, 53, 54, 55, 56, 57, 58, 32, 33, 34, 35, 36, 37, 38, 39, 40, 41, 42, 43, 44, 45] (by decide +kernel) (by decide +kernel)
set_option maxRecDepth 20000 in
theorem gX5_count_X4_counted : GoodIn wsX5_count (wsV RX5 131 RX4 yX4_counted wsX4_counted) := goodIn_app (goodIn_of _ (by decide +kernel)) ggX5_count_X4_counted
set_option maxRecDepth 20000 in
theorem ggX5_count_X5_no : GoodIn wsX5_count wsX5_no := goodIn_r _ [31, 1, 32, 33, 34, 35, 36, 37, 38, 39, 40, 41, 42, 43, 44, 45] (by decide +kernel) (by decide +kernel)
set_option maxRecDepth 20000 in
theorem gX5_count_X5_no : GoodIn wsX5_count (wsV RX5 66 RX5 yX5_no wsX5_no) := goodIn_app (goodIn_of _ (by decide +kernel)) ggX5_count_X5_no
theorem dX5_count_0 : decode cX5_count 0 = .ok (.aload_n 0, 1) := by decide +kernel
theorem dX5_count_1 : decode cX5_count 1 = .ok (.iconst 0, 1) := by decide +kernel
theorem dX5_count_2 : decode cX5_count 2 = .ok (.putfield 53, 3) := by decide +kernel
theorem dX5_count_5 : decode cX5_count 5 = .ok (.iload_n 1, 1) := by decide +kernel
theorem dX5_count_6 : decode cX5_count 6 = .ok (.iconst 0, 1) := by decide +kernel
theorem dX5_count_7 : decode cX5_count 7 = .ok (.bipush 12, 2) := by decide +kernel
theorem dX5_count_9 : decode cX5_count 9 = .ok (.invokestatic 59, 3) := by decide +kernel
theorem dX5_count_12 : decode cX5_count 12 = .ok (.ifCond .eq 14, 3) := by decide +kernel
theorem dX5_count_15 : decode cX5_count 15 = .ok (.aload_n 0, 1) := by decide +kernel
theorem dX5_count_16 : decode cX5_count 16 = .ok (.getfield 43, 3) := by decide +kernel
theorem dX5_count_19 : decode cX5_count 19 = .ok (.iload_n 1, 1) := by decide +kernel
theorem dX5_count_20 : decode cX5_count 20 = .ok (.invokevirtual 131, 3) := by decide +kernel
theorem dX5_count_23 : decode cX5_count 23 = .ok (.goto 8, 3) := by decide +kernel
theorem dX5_count_26 : decode cX5_count 26 = .ok (.aload_n 0, 1) := by decide +kernel
theorem dX5_count_27 : decode cX5_count 27 = .ok (.iconst 1, 1) := by decide +kernel
theorem dX5_count_28 : decode cX5_count 28 = .ok (.invokevirtual 66, 3) := by decide +kernel
theorem dX5_count_31 : decode cX5_count 31 = .ok (.ireturn, 1) := by decide +kernel
theorem dX5_all_0 : decode cX5_all 0 = .ok (.aload_n 0, 1) := by decide +kernel
theorem dX5_all_1 : decode cX5_all 1 = .ok (.iconst 0, 1) := by decide +kernel
theorem dX5_all_2 : decode cX5_all 2 = .ok (.iaload, 1) := by decide +kernel
theorem dX5_all_3 : decode cX5_all 3 = .ok (.aload_n 0, 1) := by decide +kernel
theorem dX5_all_4 : decode cX5_all 4 = .ok (.iconst 1, 1) := by decide +kernel
theorem dX5_all_5 : decode cX5_all 5 = .ok (.iaload, 1) := by decide +kernel
theorem dX5_all_6 : decode cX5_all 6 = .ok (.iadd, 1) := by decide +kernel
theorem dX5_all_7 : decode cX5_all 7 = .ok (.aload_n 0, 1) := by decide +kernel
theorem dX5_all_8 : decode cX5_all 8 = .ok (.iconst 2, 1) := by decide +kernel
theorem dX5_all_9 : decode cX5_all 9 = .ok (.iaload, 1) := by decide +kernel
theorem dX5_all_10 : decode cX5_all 10 = .ok (.iadd, 1) := by decide +kernel
theorem dX5_all_11 : decode cX5_all 11 = .ok (.ireturn, 1) := by decide +kernel
set_option maxRecDepth 20000 in
theorem ggX5_pass_X5_isIn : GoodIn wsX5_pass wsX5_isIn := goodIn_r _ [6] (by decide +kernel) (by decide +kernel)
set_option maxRecDepth 20000 in
theorem gX5_pass_X5_isIn : GoodIn wsX5_pass (va_wsS RX5 59 yX5_isIn wsX5_isIn) := goodIn_app (goodIn_of _ (by decide +kernel)) ggX5_pass_X5_isIn
set_option maxRecDepth 20000 in
theorem ggX5_pass_X5_no : GoodIn wsX5_pass wsX5_no := goodIn_r _ [10, 1, 76, 77, 78, 79, 80, 81, 82, 83, 84, 85, 86, 87, 88, 89] (by decide +kernel) (by decide +kernel)
set_option maxRecDepth 20000 in
theorem gX5_pass_X5_no : GoodIn wsX5_pass (wsV RX5 66 RX5 yX5_no wsX5_no) := goodIn_app (goodIn_of _ (by decide +kernel)) ggX5_pass_X5_no
set_option maxRecDepth 20000 in
theorem ggX5_pass_X5_all : GoodIn wsX5_pass wsX5_all := goodIn_r _ [13] (by decide +kernel) (by decide +kernel)
set_option maxRecDepth 20000 in
theorem gX5_pass_X5_all : GoodIn wsX5_pass (va_wsS RX5 134 yX5_all wsX5_all) := goodIn_app (goodIn_of _ (by decide +kernel)) ggX5_pass_X5_all
set_option maxRecDepth 20000 in
theorem ggX5_pass_X4_pass_ : GoodIn wsX5_pass wsX4_pass_ := goodIn_r _ [18, 19, 20, 21, 17, 22, 23, 24, 25, 26, 27, 28, 29, 30, 31, 32, 33, 34, 35, 36, 37, 38, 39, 40, 41, 42, 43, 44, 45, 46, 47, 48, 49, 50, 51, 52, 53, 54, 55, 56, 57, 58, 59, 60, 61, 62, 63, 64, 65, 66, 67, 68, 69, 70, 71, 72, 73, 74, 75, 90, 91, 92, 93, 94, 95, 96, 97, 98, 99, 100, 101, 102, 76, 77, 78, 79, 80, 81, 82, 83, 84, 85, 86, 87, 88, 89] (by decide +kernel) (by decide +kernel)
set_option maxRecDepth 20000 in
theorem gX5_pass_X4_pass_ : GoodIn wsX5_pass (wsV RX5 138 RX4 yX4_pass_ wsX4_pass_) := goodIn_app (goodIn_of _ (by decide +kernel)) ggX5_pass_X4_pass_
theorem dX5_pass_0 : decode cX5_pass 0 = .ok (.aload_n 0, 1) := by decide +kernel
theorem dX5_pass_1 : decode cX5_pass 1 = .ok (.iconst 0, 1) := by decide +kernel
theorem dX5_pass_2 : decode cX5_pass 2 = .ok (.putfield 53, 3) := by decide +kernel
theorem dX5_pass_5 : decode cX5_pass 5 = .ok (.iload_n 1, 1) := by decide +kernel
theorem dX5_pass_6 : decode cX5_pass 6 = .ok (.iconst 1, 1) := by decide +kernel
theorem dX5_pass_7 : decode cX5_pass 7 = .ok (.bipush 40, 2) := by decide +kernel
theorem dX5_pass_9 : decode cX5_pass 9 = .ok (.invokestatic 59, 3) := by decide +kernel
theorem dX5_pass_12 : decode cX5_pass 12 = .ok (.ifCond .ne 9, 3) := by decide +kernel
theorem dX5_pass_15 : decode cX5_pass 15 = .ok (.aload_n 0, 1) := by decide +kernel
theorem dX5_pass_16 : decode cX5_pass 16 = .ok (.iconst 1, 1) := by decide +kernel
theorem dX5_pass_17 : decode cX5_pass 17 = .ok (.invokevirtual 66, 3) := by decide +kernel
theorem dX5_pass_20 : decode cX5_pass 20 = .ok (.ireturn, 1) := by decide +kernel
theorem dX5_pass_21 : decode cX5_pass 21 = .ok (.aload_n 0, 1) := by decide +kernel
theorem dX5_pass_22 : decode cX5_pass 22 = .ok (.getfield 43, 3) := by decide +kernel
theorem dX5_pass_25 : decode cX5_pass 25 = .ok (.getfield 116, 3) := by decide +kernel
theorem dX5_pass_28 : decode cX5_pass 28 = .ok (.invokestatic 134, 3) := by decide +kernel
theorem dX5_pass_31 : decode cX5_pass 31 = .ok (.istore_n 2, 1) := by decide +kernel
theorem dX5_pass_32 : decode cX5_pass 32 = .ok (.aload_n 0, 1) := by decide +kernel
theorem dX5_pass_33 : decode cX5_pass 33 = .ok (.getfield 43, 3) := by decide +kernel
theorem dX5_pass_36 : decode cX5_pass 36 = .ok (.iload_n 1, 1) := by decide +kernel
theorem dX5_pass_37 : decode cX5_pass 37 = .ok (.invokevirtual 138, 3) := by decide +kernel
theorem dX5_pass_40 : decode cX5_pass 40 = .ok (.aload_n 0, 1) := by decide +kernel
theorem dX5_pass_41 : decode cX5_pass 41 = .ok (.getfield 43, 3) := by decide +kernel
theorem dX5_pass_44 : decode cX5_pass 44 = .ok (.getfield 116, 3) := by decide +kernel
theorem dX5_pass_47 : decode cX5_pass 47 = .ok (.invokestatic 134, 3) := by decide +kernel
theorem dX5_pass_50 : decode cX5_pass 50 = .ok (.iload_n 2, 1) := by decide +kernel
theorem dX5_pass_51 : decode cX5_pass 51 = .ok (.isub, 1) := by decide +kernel
theorem dX5_pass_52 : decode cX5_pass 52 = .ok (.ireturn, 1) := by decide +kernel
set_option maxRecDepth 20000 in
theorem ggX5_meets_X5_isNet : GoodIn wsX5_meets wsX5_isNet := goodIn_r _ [8, 9, 10, 11, 7, 12, 86, 87, 88, 89, 90, 91, 92, 93, 94, 95, 96, 97, 98, 99] (by decide +kernel) (by decide +kernel)
set_option maxRecDepth 20000 in
theorem gX5_meets_X5_isNet : GoodIn wsX5_meets (wsV RX5 122 RX5 yX5_isNet wsX5_isNet) := goodIn_app (goodIn_of _ (by decide +kernel)) ggX5_meets_X5_isNet
set_option maxRecDepth 20000 in
theorem ggX5_meets_X5_no : GoodIn wsX5_meets wsX5_no := goodIn_r _ [16, 1, 86, 87, 88, 89, 90, 91, 92, 93, 94, 95, 96, 97, 98, 99] (by decide +kernel) (by decide +kernel)
set_option maxRecDepth 20000 in
theorem gX5_meets_X5_no : GoodIn wsX5_meets (wsV RX5 66 RX5 yX5_no wsX5_no) := goodIn_app (goodIn_of _ (by decide +kernel)) ggX5_meets_X5_no
set_option maxRecDepth 20000 in
theorem ggX5_meets_X4_become : GoodIn wsX5_meets wsX4_become := goodIn_r _ [21, 22, 23, 24, 25, 26, 27, 28, 29, 30, 31, 32, 33, 34, 35, 36, 37, 100, 101, 102, 103, 104, 105, 106, 107, 108, 109, 110, 111, 112] (by decide +kernel) (by decide +kernel)
set_option maxRecDepth 20000 in
theorem gX5_meets_X4_become : GoodIn wsX5_meets (wsV RX5 142 RX4 yX4_become wsX4_become) := goodIn_app (goodIn_of _ (by decide +kernel)) ggX5_meets_X4_become
set_option maxRecDepth 20000 in
theorem ggX5_meets_X4_meets : GoodIn wsX5_meets wsX4_meets := goodIn_r _ [41, 36, 42, 31, 100, 101, 102, 103, 104, 105, 106, 107, 108, 109, 110, 111, 112, 86, 87, 88, 89, 90, 91, 92, 93, 94, 95, 96, 97, 98, 99] (by decide +kernel) (by decide +kernel)
set_option maxRecDepth 20000 in
theorem gX5_meets_X4_meets : GoodIn wsX5_meets (wsV RX5 146 RX4 yX4_meets wsX4_meets) := goodIn_app (goodIn_of _ (by decide +kernel)) ggX5_meets_X4_meets
set_option maxRecDepth 20000 in
theorem ggX5_meets_X4_pass : GoodIn wsX5_meets wsX4_pass := goodIn_r _ [46, 42, 36, 22, 26, 47, 48, 49, 50, 51, 52, 53, 20, 54, 31, 32, 55, 56, 57, 58, 59, 60, 61, 62, 63, 64, 35, 37, 65, 66, 67, 68, 69, 39, 40, 41, 70, 71, 72, 73, 74, 75, 76, 77, 33, 34, 78, 79, 80, 81, 82, 83, 84, 85, 25, 100, 101, 102, 103, 104, 105, 106, 107, 108, 109, 110, 111, 112, 86, 87, 88, 89, 90, 91, 92, 93, 94, 95, 96, 97, 98, 99] (by decide +kernel) (by decide +kernel)
set_option maxRecDepth 20000 in
theorem gX5_meets_X4_pass : GoodIn wsX5_meets (wsV RX5 149 RX4 yX4_pass wsX4_pass) := goodIn_app (goodIn_of _ (by decide +kernel)) ggX5_meets_X4_pass
theorem dX5_meets_0 : decode cX5_meets 0 = .ok (.aload_n 0, 1) := by decide +kernel
theorem dX5_meets_1 : decode cX5_meets 1 = .ok (.iconst 0, 1) := by decide +kernel
theorem dX5_meets_2 : decode cX5_meets 2 = .ok (.putfield 53, 3) := by decide +kernel
theorem dX5_meets_5 : decode cX5_meets 5 = .ok (.aload_n 0, 1) := by decide +kernel
theorem dX5_meets_6 : decode cX5_meets 6 = .ok (.iload_n 1, 1) := by decide +kernel
theorem dX5_meets_7 : decode cX5_meets 7 = .ok (.invokevirtual 122, 3) := by decide +kernel
theorem dX5_meets_10 : decode cX5_meets 10 = .ok (.ifCond .ne 9, 3) := by decide +kernel
theorem dX5_meets_13 : decode cX5_meets 13 = .ok (.aload_n 0, 1) := by decide +kernel
theorem dX5_meets_14 : decode cX5_meets 14 = .ok (.iconst 1, 1) := by decide +kernel
theorem dX5_meets_15 : decode cX5_meets 15 = .ok (.invokevirtual 66, 3) := by decide +kernel
theorem dX5_meets_18 : decode cX5_meets 18 = .ok (.ireturn, 1) := by decide +kernel
theorem dX5_meets_19 : decode cX5_meets 19 = .ok (.aload_n 0, 1) := by decide +kernel
theorem dX5_meets_20 : decode cX5_meets 20 = .ok (.getfield 47, 3) := by decide +kernel
theorem dX5_meets_23 : decode cX5_meets 23 = .ok (.aload_n 0, 1) := by decide +kernel
theorem dX5_meets_24 : decode cX5_meets 24 = .ok (.getfield 43, 3) := by decide +kernel
theorem dX5_meets_27 : decode cX5_meets 27 = .ok (.invokevirtual 142, 3) := by decide +kernel
theorem dX5_meets_30 : decode cX5_meets 30 = .ok (.iconst 0, 1) := by decide +kernel
theorem dX5_meets_31 : decode cX5_meets 31 = .ok (.istore_n 2, 1) := by decide +kernel
theorem dX5_meets_32 : decode cX5_meets 32 = .ok (.iload_n 2, 1) := by decide +kernel
theorem dX5_meets_33 : decode cX5_meets 33 = .ok (.bipush 90, 2) := by decide +kernel
theorem dX5_meets_35 : decode cX5_meets 35 = .ok (.if_icmp .gt 29, 3) := by decide +kernel
theorem dX5_meets_38 : decode cX5_meets 38 = .ok (.aload_n 0, 1) := by decide +kernel
theorem dX5_meets_39 : decode cX5_meets 39 = .ok (.getfield 47, 3) := by decide +kernel
theorem dX5_meets_42 : decode cX5_meets 42 = .ok (.iload_n 1, 1) := by decide +kernel
theorem dX5_meets_43 : decode cX5_meets 43 = .ok (.invokevirtual 146, 3) := by decide +kernel
theorem dX5_meets_46 : decode cX5_meets 46 = .ok (.ifCond .eq 5, 3) := by decide +kernel
theorem dX5_meets_49 : decode cX5_meets 49 = .ok (.iload_n 2, 1) := by decide +kernel
theorem dX5_meets_50 : decode cX5_meets 50 = .ok (.ireturn, 1) := by decide +kernel
theorem dX5_meets_51 : decode cX5_meets 51 = .ok (.aload_n 0, 1) := by decide +kernel
theorem dX5_meets_52 : decode cX5_meets 52 = .ok (.getfield 47, 3) := by decide +kernel
theorem dX5_meets_55 : decode cX5_meets 55 = .ok (.invokevirtual 149, 3) := by decide +kernel
theorem dX5_meets_58 : decode cX5_meets 58 = .ok (.iinc 2 1, 3) := by decide +kernel
theorem dX5_meets_61 : decode cX5_meets 61 = .ok (.goto (-29), 3) := by decide +kernel
theorem dX5_meets_64 : decode cX5_meets 64 = .ok (.iconst (-1), 1) := by decide +kernel
theorem dX5_meets_65 : decode cX5_meets 65 = .ok (.ireturn, 1) := by decide +kernel
set_option maxRecDepth 20000 in
theorem ggX5_sinks_X5_isCoracle : GoodIn wsX5_sinks wsX5_isCoracle := goodIn_r _ [8, 9, 10, 11, 7, 12, 85, 86, 87, 88, 89, 90, 91, 92, 93, 94, 95, 96, 97, 98] (by decide +kernel) (by decide +kernel)
set_option maxRecDepth 20000 in
theorem gX5_sinks_X5_isCoracle : GoodIn wsX5_sinks (wsV RX5 80 RX5 yX5_isCoracle wsX5_isCoracle) := goodIn_app (goodIn_of _ (by decide +kernel)) ggX5_sinks_X5_isCoracle
set_option maxRecDepth 20000 in
theorem ggX5_sinks_X5_no : GoodIn wsX5_sinks wsX5_no := goodIn_r _ [16, 1, 85, 86, 87, 88, 89, 90, 91, 92, 93, 94, 95, 96, 97, 98] (by decide +kernel) (by decide +kernel)
set_option maxRecDepth 20000 in
theorem gX5_sinks_X5_no : GoodIn wsX5_sinks (wsV RX5 66 RX5 yX5_no wsX5_no) := goodIn_app (goodIn_of _ (by decide +kernel)) ggX5_sinks_X5_no
set_option maxRecDepth 20000 in
theorem ggX5_sinks_X4_become : GoodIn wsX5_sinks wsX4_become := goodIn_r _ [21, 22, 23, 24, 25, 26, 27, 28, 29, 30, 31, 32, 33, 34, 35, 36, 37, 99, 100, 101, 102, 103, 104, 105, 106, 107, 108, 109, 110, 111] (by decide +kernel) (by decide +kernel)
set_option maxRecDepth 20000 in
theorem gX5_sinks_X4_become : GoodIn wsX5_sinks (wsV RX5 142 RX4 yX4_become wsX4_become) := goodIn_app (goodIn_of _ (by decide +kernel)) ggX5_sinks_X4_become
set_option maxRecDepth 20000 in
theorem ggX5_sinks_X4_pass : GoodIn wsX5_sinks wsX4_pass := goodIn_r _ [41, 42, 36, 22, 26, 43, 44, 45, 46, 47, 48, 49, 20, 50, 31, 32, 51, 52, 53, 54, 55, 56, 57, 58, 59, 60, 35, 37, 61, 62, 63, 64, 65, 66, 67, 68, 69, 70, 71, 72, 73, 74, 75, 76, 33, 34, 77, 78, 79, 80, 81, 82, 83, 84, 25, 99, 100, 101, 102, 103, 104, 105, 106, 107, 108, 109, 110, 111, 85, 86, 87, 88, 89, 90, 91, 92, 93, 94, 95, 96, 97, 98] (by decide +kernel) (by decide +kernel)
set_option maxRecDepth 20000 in
theorem gX5_sinks_X4_pass : GoodIn wsX5_sinks (wsV RX5 149 RX4 yX4_pass wsX4_pass) := goodIn_app (goodIn_of _ (by decide +kernel)) ggX5_sinks_X4_pass
theorem dX5_sinks_0 : decode cX5_sinks 0 = .ok (.aload_n 0, 1) := by decide +kernel
theorem dX5_sinks_1 : decode cX5_sinks 1 = .ok (.iconst 0, 1) := by decide +kernel
theorem dX5_sinks_2 : decode cX5_sinks 2 = .ok (.putfield 53, 3) := by decide +kernel
theorem dX5_sinks_5 : decode cX5_sinks 5 = .ok (.aload_n 0, 1) := by decide +kernel
theorem dX5_sinks_6 : decode cX5_sinks 6 = .ok (.iload_n 1, 1) := by decide +kernel
theorem dX5_sinks_7 : decode cX5_sinks 7 = .ok (.invokevirtual 80, 3) := by decide +kernel
theorem dX5_sinks_10 : decode cX5_sinks 10 = .ok (.ifCond .ne 9, 3) := by decide +kernel
theorem dX5_sinks_13 : decode cX5_sinks 13 = .ok (.aload_n 0, 1) := by decide +kernel
theorem dX5_sinks_14 : decode cX5_sinks 14 = .ok (.iconst 1, 1) := by decide +kernel
theorem dX5_sinks_15 : decode cX5_sinks 15 = .ok (.invokevirtual 66, 3) := by decide +kernel
theorem dX5_sinks_18 : decode cX5_sinks 18 = .ok (.ireturn, 1) := by decide +kernel
theorem dX5_sinks_19 : decode cX5_sinks 19 = .ok (.aload_n 0, 1) := by decide +kernel
theorem dX5_sinks_20 : decode cX5_sinks 20 = .ok (.getfield 47, 3) := by decide +kernel
theorem dX5_sinks_23 : decode cX5_sinks 23 = .ok (.aload_n 0, 1) := by decide +kernel
theorem dX5_sinks_24 : decode cX5_sinks 24 = .ok (.getfield 43, 3) := by decide +kernel
theorem dX5_sinks_27 : decode cX5_sinks 27 = .ok (.invokevirtual 142, 3) := by decide +kernel
theorem dX5_sinks_30 : decode cX5_sinks 30 = .ok (.iconst 0, 1) := by decide +kernel
theorem dX5_sinks_31 : decode cX5_sinks 31 = .ok (.istore_n 2, 1) := by decide +kernel
theorem dX5_sinks_32 : decode cX5_sinks 32 = .ok (.iload_n 2, 1) := by decide +kernel
theorem dX5_sinks_33 : decode cX5_sinks 33 = .ok (.bipush 90, 2) := by decide +kernel
theorem dX5_sinks_35 : decode cX5_sinks 35 = .ok (.if_icmp .gt 30, 3) := by decide +kernel
theorem dX5_sinks_38 : decode cX5_sinks 38 = .ok (.aload_n 0, 1) := by decide +kernel
theorem dX5_sinks_39 : decode cX5_sinks 39 = .ok (.getfield 47, 3) := by decide +kernel
theorem dX5_sinks_42 : decode cX5_sinks 42 = .ok (.getfield 90, 3) := by decide +kernel
theorem dX5_sinks_45 : decode cX5_sinks 45 = .ok (.iload_n 1, 1) := by decide +kernel
theorem dX5_sinks_46 : decode cX5_sinks 46 = .ok (.baload, 1) := by decide +kernel
theorem dX5_sinks_47 : decode cX5_sinks 47 = .ok (.ifCond .eq 5, 3) := by decide +kernel
theorem dX5_sinks_50 : decode cX5_sinks 50 = .ok (.iload_n 2, 1) := by decide +kernel
theorem dX5_sinks_51 : decode cX5_sinks 51 = .ok (.ireturn, 1) := by decide +kernel
theorem dX5_sinks_52 : decode cX5_sinks 52 = .ok (.aload_n 0, 1) := by decide +kernel
theorem dX5_sinks_53 : decode cX5_sinks 53 = .ok (.getfield 47, 3) := by decide +kernel
theorem dX5_sinks_56 : decode cX5_sinks 56 = .ok (.invokevirtual 149, 3) := by decide +kernel
theorem dX5_sinks_59 : decode cX5_sinks 59 = .ok (.iinc 2 1, 3) := by decide +kernel
theorem dX5_sinks_62 : decode cX5_sinks 62 = .ok (.goto (-30), 3) := by decide +kernel
theorem dX5_sinks_65 : decode cX5_sinks 65 = .ok (.iconst (-1), 1) := by decide +kernel
theorem dX5_sinks_66 : decode cX5_sinks 66 = .ok (.ireturn, 1) := by decide +kernel
set_option maxRecDepth 20000 in
theorem ggX5_foresee_X5_isIn : GoodIn wsX5_foresee wsX5_isIn := goodIn_r _ [7] (by decide +kernel) (by decide +kernel)
set_option maxRecDepth 20000 in
theorem gX5_foresee_X5_isIn : GoodIn wsX5_foresee (va_wsS RX5 59 yX5_isIn wsX5_isIn) := goodIn_app (goodIn_of _ (by decide +kernel)) ggX5_foresee_X5_isIn
set_option maxRecDepth 20000 in
theorem ggX5_foresee_X5_no : GoodIn wsX5_foresee wsX5_no := goodIn_r _ [11, 1, 96, 97, 98, 99, 100, 101, 102, 103, 104, 105, 106, 107, 108, 109] (by decide +kernel) (by decide +kernel)
set_option maxRecDepth 20000 in
theorem gX5_foresee_X5_no : GoodIn wsX5_foresee (wsV RX5 66 RX5 yX5_no wsX5_no) := goodIn_app (goodIn_of _ (by decide +kernel)) ggX5_foresee_X5_no
set_option maxRecDepth 20000 in
theorem ggX5_foresee_X4_become : GoodIn wsX5_foresee wsX4_become := goodIn_r _ [16, 17, 18, 19, 20, 21, 22, 23, 24, 25, 26, 27, 28, 29, 30, 31, 32, 110, 111, 112, 113, 114, 115, 116, 117, 118, 119, 120, 121, 122] (by decide +kernel) (by decide +kernel)
set_option maxRecDepth 20000 in
theorem gX5_foresee_X4_become : GoodIn wsX5_foresee (wsV RX5 142 RX4 yX4_become wsX4_become) := goodIn_app (goodIn_of _ (by decide +kernel)) ggX5_foresee_X4_become
set_option maxRecDepth 20000 in
theorem ggX5_foresee_X4_pass_ : GoodIn wsX5_foresee wsX4_pass_ := goodIn_r _ [36, 37, 38, 39, 15, 40, 41, 31, 17, 21, 42, 43, 44, 45, 46, 47, 48, 49, 26, 27, 50, 51, 52, 53, 54, 55, 56, 57, 58, 59, 30, 32, 60, 61, 62, 63, 64, 65, 66, 67, 68, 69, 70, 71, 72, 73, 74, 75, 28, 29, 76, 77, 78, 79, 80, 81, 82, 83, 20, 110, 111, 112, 113, 114, 115, 116, 117, 118, 119, 120, 121, 122, 96, 97, 98, 99, 100, 101, 102, 103, 104, 105, 106, 107, 108, 109] (by decide +kernel) (by decide +kernel)
set_option maxRecDepth 20000 in
theorem gX5_foresee_X4_pass_ : GoodIn wsX5_foresee (wsV RX5 138 RX4 yX4_pass_ wsX4_pass_) := goodIn_app (goodIn_of _ (by decide +kernel)) ggX5_foresee_X4_pass_
set_option maxRecDepth 20000 in
theorem ggX5_foresee_X4_counted : GoodIn wsX5_foresee wsX4_counted := goodIn_r _ [87, 17, 18, 41, 30, 21, 19, 20, 88, 89, 90, 15, 91, 31, 92, 93, 94, 95, 110, 111, 112, 113, 114, 115, 116, 117, 118, 119, 120, 121, 122, 96, 97, 98, 99, 100, 101, 102, 103, 104, 105, 106, 107, 108, 109] (by decide +kernel) (by decide +kernel)
set_option maxRecDepth 20000 in
theorem gX5_foresee_X4_counted : GoodIn wsX5_foresee (wsV RX5 131 RX4 yX4_counted wsX4_counted) := goodIn_app (goodIn_of _ (by decide +kernel)) ggX5_foresee_X4_counted
theorem dX5_foresee_0 : decode cX5_foresee 0 = .ok (.aload_n 0, 1) := by decide +kernel
theorem dX5_foresee_1 : decode cX5_foresee 1 = .ok (.iconst 0, 1) := by decide +kernel
theorem dX5_foresee_2 : decode cX5_foresee 2 = .ok (.putfield 53, 3) := by decide +kernel
theorem dX5_foresee_5 : decode cX5_foresee 5 = .ok (.iload_n 1, 1) := by decide +kernel
theorem dX5_foresee_6 : decode cX5_foresee 6 = .ok (.iconst 1, 1) := by decide +kernel
theorem dX5_foresee_7 : decode cX5_foresee 7 = .ok (.bipush 40, 2) := by decide +kernel
theorem dX5_foresee_9 : decode cX5_foresee 9 = .ok (.invokestatic 59, 3) := by decide +kernel
theorem dX5_foresee_12 : decode cX5_foresee 12 = .ok (.ifCond .ne 9, 3) := by decide +kernel
theorem dX5_foresee_15 : decode cX5_foresee 15 = .ok (.aload_n 0, 1) := by decide +kernel
theorem dX5_foresee_16 : decode cX5_foresee 16 = .ok (.iconst 1, 1) := by decide +kernel
theorem dX5_foresee_17 : decode cX5_foresee 17 = .ok (.invokevirtual 66, 3) := by decide +kernel
theorem dX5_foresee_20 : decode cX5_foresee 20 = .ok (.ireturn, 1) := by decide +kernel
theorem dX5_foresee_21 : decode cX5_foresee 21 = .ok (.iload_n 2, 1) := by decide +kernel
theorem dX5_foresee_22 : decode cX5_foresee 22 = .ok (.iconst 0, 1) := by decide +kernel
theorem dX5_foresee_23 : decode cX5_foresee 23 = .ok (.bipush 12, 2) := by decide +kernel
theorem dX5_foresee_25 : decode cX5_foresee 25 = .ok (.invokestatic 59, 3) := by decide +kernel
theorem dX5_foresee_28 : decode cX5_foresee 28 = .ok (.ifCond .ne 9, 3) := by decide +kernel
theorem dX5_foresee_31 : decode cX5_foresee 31 = .ok (.aload_n 0, 1) := by decide +kernel
theorem dX5_foresee_32 : decode cX5_foresee 32 = .ok (.iconst 2, 1) := by decide +kernel
theorem dX5_foresee_33 : decode cX5_foresee 33 = .ok (.invokevirtual 66, 3) := by decide +kernel
theorem dX5_foresee_36 : decode cX5_foresee 36 = .ok (.ireturn, 1) := by decide +kernel
theorem dX5_foresee_37 : decode cX5_foresee 37 = .ok (.aload_n 0, 1) := by decide +kernel
theorem dX5_foresee_38 : decode cX5_foresee 38 = .ok (.getfield 47, 3) := by decide +kernel
theorem dX5_foresee_41 : decode cX5_foresee 41 = .ok (.aload_n 0, 1) := by decide +kernel
theorem dX5_foresee_42 : decode cX5_foresee 42 = .ok (.getfield 43, 3) := by decide +kernel
theorem dX5_foresee_45 : decode cX5_foresee 45 = .ok (.invokevirtual 142, 3) := by decide +kernel
theorem dX5_foresee_48 : decode cX5_foresee 48 = .ok (.aload_n 0, 1) := by decide +kernel
theorem dX5_foresee_49 : decode cX5_foresee 49 = .ok (.getfield 47, 3) := by decide +kernel
theorem dX5_foresee_52 : decode cX5_foresee 52 = .ok (.iload_n 1, 1) := by decide +kernel
theorem dX5_foresee_53 : decode cX5_foresee 53 = .ok (.invokevirtual 138, 3) := by decide +kernel
theorem dX5_foresee_56 : decode cX5_foresee 56 = .ok (.aload_n 0, 1) := by decide +kernel
theorem dX5_foresee_57 : decode cX5_foresee 57 = .ok (.getfield 47, 3) := by decide +kernel
theorem dX5_foresee_60 : decode cX5_foresee 60 = .ok (.iload_n 2, 1) := by decide +kernel
theorem dX5_foresee_61 : decode cX5_foresee 61 = .ok (.invokevirtual 131, 3) := by decide +kernel
theorem dX5_foresee_64 : decode cX5_foresee 64 = .ok (.ireturn, 1) := by decide +kernel
set_option maxRecDepth 20000 in
theorem ggX5_advise_X5_isNet : GoodIn wsX5_advise wsX5_isNet := goodIn_r _ [10, 11, 12, 13, 9, 14, 91, 92, 93, 94, 95, 96, 97, 98, 99, 100, 101, 102, 103, 104] (by decide +kernel) (by decide +kernel)
set_option maxRecDepth 20000 in
theorem gX5_advise_X5_isNet : GoodIn wsX5_advise (wsV RX5 122 RX5 yX5_isNet wsX5_isNet) := goodIn_app (goodIn_of _ (by decide +kernel)) ggX5_advise_X5_isNet
set_option maxRecDepth 20000 in
theorem ggX5_advise_X5_no : GoodIn wsX5_advise wsX5_no := goodIn_r _ [18, 1, 91, 92, 93, 94, 95, 96, 97, 98, 99, 100, 101, 102, 103, 104] (by decide +kernel) (by decide +kernel)
set_option maxRecDepth 20000 in
theorem gX5_advise_X5_no : GoodIn wsX5_advise (wsV RX5 66 RX5 yX5_no wsX5_no) := goodIn_app (goodIn_of _ (by decide +kernel)) ggX5_advise_X5_no
set_option maxRecDepth 20000 in
theorem ggX5_advise_X5_isIn : GoodIn wsX5_advise wsX5_isIn := goodIn_r _ [14] (by decide +kernel) (by decide +kernel)
set_option maxRecDepth 20000 in
theorem gX5_advise_X5_isIn : GoodIn wsX5_advise (va_wsS RX5 59 yX5_isIn wsX5_isIn) := goodIn_app (goodIn_of _ (by decide +kernel)) ggX5_advise_X5_isIn
set_option maxRecDepth 20000 in
theorem ggX5_advise_X4_become : GoodIn wsX5_advise wsX4_become := goodIn_r _ [23, 24, 25, 26, 27, 28, 29, 30, 31, 32, 33, 34, 35, 36, 37, 38, 39, 105, 106, 107, 108, 109, 110, 111, 112, 113, 114, 115, 116, 117] (by decide +kernel) (by decide +kernel)
set_option maxRecDepth 20000 in
theorem gX5_advise_X4_become : GoodIn wsX5_advise (wsV RX5 142 RX4 yX4_become wsX4_become) := goodIn_app (goodIn_of _ (by decide +kernel)) ggX5_advise_X4_become
set_option maxRecDepth 20000 in
theorem ggX5_advise_X4_pass_ : GoodIn wsX5_advise wsX4_pass_ := goodIn_r _ [43, 44, 45, 46, 22, 47, 48, 38, 24, 28, 49, 50, 51, 52, 53, 54, 55, 56, 33, 34, 57, 58, 59, 60, 61, 62, 63, 64, 65, 66, 37, 39, 67, 68, 69, 70, 71, 72, 73, 74, 75, 76, 77, 78, 79, 80, 81, 82, 35, 36, 83, 84, 85, 86, 87, 88, 89, 90, 27, 105, 106, 107, 108, 109, 110, 111, 112, 113, 114, 115, 116, 117, 91, 92, 93, 94, 95, 96, 97, 98, 99, 100, 101, 102, 103, 104] (by decide +kernel) (by decide +kernel)
set_option maxRecDepth 20000 in
theorem gX5_advise_X4_pass_ : GoodIn wsX5_advise (wsV RX5 138 RX4 yX4_pass_ wsX4_pass_) := goodIn_app (goodIn_of _ (by decide +kernel)) ggX5_advise_X4_pass_
theorem dX5_advise_0 : decode cX5_advise 0 = .ok (.aload_n 0, 1) := by decide +kernel
theorem dX5_advise_1 : decode cX5_advise 1 = .ok (.iconst 0, 1) := by decide +kernel
theorem dX5_advise_2 : decode cX5_advise 2 = .ok (.putfield 53, 3) := by decide +kernel
theorem dX5_advise_5 : decode cX5_advise 5 = .ok (.aload_n 0, 1) := by decide +kernel
theorem dX5_advise_6 : decode cX5_advise 6 = .ok (.iload_n 1, 1) := by decide +kernel
theorem dX5_advise_7 : decode cX5_advise 7 = .ok (.invokevirtual 122, 3) := by decide +kernel
theorem dX5_advise_10 : decode cX5_advise 10 = .ok (.ifCond .ne 9, 3) := by decide +kernel
theorem dX5_advise_13 : decode cX5_advise 13 = .ok (.aload_n 0, 1) := by decide +kernel
theorem dX5_advise_14 : decode cX5_advise 14 = .ok (.iconst 1, 1) := by decide +kernel
theorem dX5_advise_15 : decode cX5_advise 15 = .ok (.invokevirtual 66, 3) := by decide +kernel
theorem dX5_advise_18 : decode cX5_advise 18 = .ok (.ireturn, 1) := by decide +kernel
theorem dX5_advise_19 : decode cX5_advise 19 = .ok (.iload_n 2, 1) := by decide +kernel
theorem dX5_advise_20 : decode cX5_advise 20 = .ok (.iconst 1, 1) := by decide +kernel
theorem dX5_advise_21 : decode cX5_advise 21 = .ok (.bipush 10, 2) := by decide +kernel
theorem dX5_advise_23 : decode cX5_advise 23 = .ok (.invokestatic 59, 3) := by decide +kernel
theorem dX5_advise_26 : decode cX5_advise 26 = .ok (.ifCond .ne 9, 3) := by decide +kernel
theorem dX5_advise_29 : decode cX5_advise 29 = .ok (.aload_n 0, 1) := by decide +kernel
theorem dX5_advise_30 : decode cX5_advise 30 = .ok (.iconst 2, 1) := by decide +kernel
theorem dX5_advise_31 : decode cX5_advise 31 = .ok (.invokevirtual 66, 3) := by decide +kernel
theorem dX5_advise_34 : decode cX5_advise 34 = .ok (.ireturn, 1) := by decide +kernel
theorem dX5_advise_35 : decode cX5_advise 35 = .ok (.iconst 0, 1) := by decide +kernel
theorem dX5_advise_36 : decode cX5_advise 36 = .ok (.istore_n 3, 1) := by decide +kernel
theorem dX5_advise_37 : decode cX5_advise 37 = .ok (.iconst (-1), 1) := by decide +kernel
theorem dX5_advise_38 : decode cX5_advise 38 = .ok (.istore 4, 2) := by decide +kernel
theorem dX5_advise_40 : decode cX5_advise 40 = .ok (.iconst 0, 1) := by decide +kernel
theorem dX5_advise_41 : decode cX5_advise 41 = .ok (.istore 5, 2) := by decide +kernel
theorem dX5_advise_43 : decode cX5_advise 43 = .ok (.iload 5, 2) := by decide +kernel
theorem dX5_advise_45 : decode cX5_advise 45 = .ok (.bipush 16, 2) := by decide +kernel
theorem dX5_advise_47 : decode cX5_advise 47 = .ok (.if_icmp .ge 91, 3) := by decide +kernel
theorem dX5_advise_50 : decode cX5_advise 50 = .ok (.aload_n 0, 1) := by decide +kernel
theorem dX5_advise_51 : decode cX5_advise 51 = .ok (.getfield 47, 3) := by decide +kernel
theorem dX5_advise_54 : decode cX5_advise 54 = .ok (.aload_n 0, 1) := by decide +kernel
theorem dX5_advise_55 : decode cX5_advise 55 = .ok (.getfield 43, 3) := by decide +kernel
theorem dX5_advise_58 : decode cX5_advise 58 = .ok (.invokevirtual 142, 3) := by decide +kernel
theorem dX5_advise_61 : decode cX5_advise 61 = .ok (.aload_n 0, 1) := by decide +kernel
theorem dX5_advise_62 : decode cX5_advise 62 = .ok (.getfield 47, 3) := by decide +kernel
theorem dX5_advise_65 : decode cX5_advise 65 = .ok (.getfield 87, 3) := by decide +kernel
theorem dX5_advise_68 : decode cX5_advise 68 = .ok (.aload_n 0, 1) := by decide +kernel
theorem dX5_advise_69 : decode cX5_advise 69 = .ok (.getfield 25, 3) := by decide +kernel
theorem dX5_advise_72 : decode cX5_advise 72 = .ok (.iload_n 1, 1) := by decide +kernel
theorem dX5_advise_73 : decode cX5_advise 73 = .ok (.iaload, 1) := by decide +kernel
theorem dX5_advise_74 : decode cX5_advise 74 = .ok (.iload 5, 2) := by decide +kernel
theorem dX5_advise_76 : decode cX5_advise 76 = .ok (.iastore, 1) := by decide +kernel
theorem dX5_advise_77 : decode cX5_advise 77 = .ok (.aload_n 0, 1) := by decide +kernel
theorem dX5_advise_78 : decode cX5_advise 78 = .ok (.getfield 47, 3) := by decide +kernel
theorem dX5_advise_81 : decode cX5_advise 81 = .ok (.getfield 87, 3) := by decide +kernel
theorem dX5_advise_84 : decode cX5_advise 84 = .ok (.aload_n 0, 1) := by decide +kernel
theorem dX5_advise_85 : decode cX5_advise 85 = .ok (.getfield 28, 3) := by decide +kernel
theorem dX5_advise_88 : decode cX5_advise 88 = .ok (.iload_n 1, 1) := by decide +kernel
theorem dX5_advise_89 : decode cX5_advise 89 = .ok (.iaload, 1) := by decide +kernel
theorem dX5_advise_90 : decode cX5_advise 90 = .ok (.iload 5, 2) := by decide +kernel
theorem dX5_advise_92 : decode cX5_advise 92 = .ok (.iastore, 1) := by decide +kernel
theorem dX5_advise_93 : decode cX5_advise 93 = .ok (.aload_n 0, 1) := by decide +kernel
theorem dX5_advise_94 : decode cX5_advise 94 = .ok (.getfield 47, 3) := by decide +kernel
theorem dX5_advise_97 : decode cX5_advise 97 = .ok (.iload_n 2, 1) := by decide +kernel
theorem dX5_advise_98 : decode cX5_advise 98 = .ok (.invokevirtual 138, 3) := by decide +kernel
theorem dX5_advise_101 : decode cX5_advise 101 = .ok (.aload_n 0, 1) := by decide +kernel
theorem dX5_advise_102 : decode cX5_advise 102 = .ok (.getfield 47, 3) := by decide +kernel
theorem dX5_advise_105 : decode cX5_advise 105 = .ok (.getfield 116, 3) := by decide +kernel
theorem dX5_advise_108 : decode cX5_advise 108 = .ok (.iload_n 1, 1) := by decide +kernel
theorem dX5_advise_109 : decode cX5_advise 109 = .ok (.iaload, 1) := by decide +kernel
theorem dX5_advise_110 : decode cX5_advise 110 = .ok (.iload 4, 2) := by decide +kernel
theorem dX5_advise_112 : decode cX5_advise 112 = .ok (.if_icmp .gt 6, 3) := by decide +kernel
theorem dX5_advise_115 : decode cX5_advise 115 = .ok (.goto 17, 3) := by decide +kernel
theorem dX5_advise_118 : decode cX5_advise 118 = .ok (.iload 5, 2) := by decide +kernel
theorem dX5_advise_120 : decode cX5_advise 120 = .ok (.istore_n 3, 1) := by decide +kernel
theorem dX5_advise_121 : decode cX5_advise 121 = .ok (.aload_n 0, 1) := by decide +kernel
theorem dX5_advise_122 : decode cX5_advise 122 = .ok (.getfield 47, 3) := by decide +kernel
theorem dX5_advise_125 : decode cX5_advise 125 = .ok (.getfield 116, 3) := by decide +kernel
theorem dX5_advise_128 : decode cX5_advise 128 = .ok (.iload_n 1, 1) := by decide +kernel
theorem dX5_advise_129 : decode cX5_advise 129 = .ok (.iaload, 1) := by decide +kernel
theorem dX5_advise_130 : decode cX5_advise 130 = .ok (.istore 4, 2) := by decide +kernel
theorem dX5_advise_132 : decode cX5_advise 132 = .ok (.iinc 5 1, 3) := by decide +kernel
theorem dX5_advise_135 : decode cX5_advise 135 = .ok (.goto (-92), 3) := by decide +kernel
theorem dX5_advise_138 : decode cX5_advise 138 = .ok (.iload_n 3, 1) := by decide +kernel
theorem dX5_advise_139 : decode cX5_advise 139 = .ok (.ireturn, 1) := by decide +kernel
theorem dX5_mean_0 : decode cX5_mean 0 = .ok (.aload_n 0, 1) := by decide +kernel
theorem dX5_mean_1 : decode cX5_mean 1 = .ok (.iconst 0, 1) := by decide +kernel
theorem dX5_mean_2 : decode cX5_mean 2 = .ok (.putfield 53, 3) := by decide +kernel
theorem dX5_mean_5 : decode cX5_mean 5 = .ok (.iconst 0, 1) := by decide +kernel
theorem dX5_mean_6 : decode cX5_mean 6 = .ok (.istore_n 1, 1) := by decide +kernel
theorem dX5_mean_7 : decode cX5_mean 7 = .ok (.iconst 0, 1) := by decide +kernel
theorem dX5_mean_8 : decode cX5_mean 8 = .ok (.istore_n 2, 1) := by decide +kernel
theorem dX5_mean_9 : decode cX5_mean 9 = .ok (.iload_n 2, 1) := by decide +kernel
theorem dX5_mean_10 : decode cX5_mean 10 = .ok (.aload_n 0, 1) := by decide +kernel
theorem dX5_mean_11 : decode cX5_mean 11 = .ok (.getfield 56, 3) := by decide +kernel
theorem dX5_mean_14 : decode cX5_mean 14 = .ok (.if_icmp .ge 21, 3) := by decide +kernel
theorem dX5_mean_17 : decode cX5_mean 17 = .ok (.iload_n 1, 1) := by decide +kernel
theorem dX5_mean_18 : decode cX5_mean 18 = .ok (.aload_n 0, 1) := by decide +kernel
theorem dX5_mean_19 : decode cX5_mean 19 = .ok (.getfield 43, 3) := by decide +kernel
theorem dX5_mean_22 : decode cX5_mean 22 = .ok (.getfield 77, 3) := by decide +kernel
theorem dX5_mean_25 : decode cX5_mean 25 = .ok (.iload_n 2, 1) := by decide +kernel
theorem dX5_mean_26 : decode cX5_mean 26 = .ok (.iaload, 1) := by decide +kernel
theorem dX5_mean_27 : decode cX5_mean 27 = .ok (.iadd, 1) := by decide +kernel
theorem dX5_mean_28 : decode cX5_mean 28 = .ok (.istore_n 1, 1) := by decide +kernel
theorem dX5_mean_29 : decode cX5_mean 29 = .ok (.iinc 2 1, 3) := by decide +kernel
theorem dX5_mean_32 : decode cX5_mean 32 = .ok (.goto (-23), 3) := by decide +kernel
theorem dX5_mean_35 : decode cX5_mean 35 = .ok (.aload_n 0, 1) := by decide +kernel
theorem dX5_mean_36 : decode cX5_mean 36 = .ok (.getfield 56, 3) := by decide +kernel
theorem dX5_mean_39 : decode cX5_mean 39 = .ok (.ifCond .ne 7, 3) := by decide +kernel
theorem dX5_mean_42 : decode cX5_mean 42 = .ok (.dconst 0, 1) := by decide +kernel
theorem dX5_mean_43 : decode cX5_mean 43 = .ok (.goto 11, 3) := by decide +kernel
theorem dX5_mean_46 : decode cX5_mean 46 = .ok (.iload_n 1, 1) := by decide +kernel
theorem dX5_mean_47 : decode cX5_mean 47 = .ok (.i2d, 1) := by decide +kernel
theorem dX5_mean_48 : decode cX5_mean 48 = .ok (.aload_n 0, 1) := by decide +kernel
theorem dX5_mean_49 : decode cX5_mean 49 = .ok (.getfield 56, 3) := by decide +kernel
theorem dX5_mean_52 : decode cX5_mean 52 = .ok (.i2d, 1) := by decide +kernel
theorem dX5_mean_53 : decode cX5_mean 53 = .ok (.ddiv, 1) := by decide +kernel
theorem dX5_mean_54 : decode cX5_mean 54 = .ok (.dreturn, 1) := by decide +kernel
set_option maxRecDepth 20000 in
theorem ggX5_digest_X4_counted : GoodIn wsX5_digest wsX4_counted := goodIn_r _ [13, 14, 15, 16, 17, 18, 19, 20, 21, 22, 23, 12, 24, 25, 26, 27, 28, 29, 87, 88, 89, 90, 91, 92, 93, 94, 95, 96, 97, 98, 99, 73, 74, 75, 76, 77, 78, 79, 80, 81, 82, 83, 84, 85, 86] (by decide +kernel) (by decide +kernel)
set_option maxRecDepth 20000 in
theorem gX5_digest_X4_counted : GoodIn wsX5_digest (wsV RX5 131 RX4 yX4_counted wsX4_counted) := goodIn_app (goodIn_of _ (by decide +kernel)) ggX5_digest_X4_counted
set_option maxRecDepth 20000 in
theorem ggX5_digest_X5_coracleTold : GoodIn wsX5_digest wsX5_coracleTold := goodIn_r _ [34, 35, 36, 37, 4, 38, 39, 40, 33, 41, 42, 43, 44, 45, 46, 47, 8, 73, 74, 75, 76, 77, 78, 79, 80, 81, 82, 83, 84, 85, 86, 87, 88, 89, 90, 91, 92, 93, 94, 95, 96, 97, 98, 99] (by decide +kernel) (by decide +kernel)
set_option maxRecDepth 20000 in
theorem gX5_digest_X5_coracleTold : GoodIn wsX5_digest (wsV RX5 112 RX5 yX5_coracleTold wsX5_coracleTold) := goodIn_app (goodIn_of _ (by decide +kernel)) ggX5_digest_X5_coracleTold
set_option maxRecDepth 20000 in
theorem ggX5_digest_X5_netTold : GoodIn wsX5_digest wsX5_netTold := goodIn_r _ [51, 42, 43, 4, 52, 53, 54, 12, 55, 16, 18, 56, 57, 58, 59, 60, 61, 62, 63, 64, 25, 65, 66, 67, 68, 17, 73, 74, 75, 76, 77, 78, 79, 80, 81, 82, 83, 84, 85, 86, 87, 88, 89, 90, 91, 92, 93, 94, 95, 96, 97, 98, 99] (by decide +kernel) (by decide +kernel)
set_option maxRecDepth 20000 in
theorem gX5_digest_X5_netTold : GoodIn wsX5_digest (wsV RX5 125 RX5 yX5_netTold wsX5_netTold) := goodIn_app (goodIn_of _ (by decide +kernel)) ggX5_digest_X5_netTold
set_option maxRecDepth 20000 in
theorem ggX5_digest_X5_reachTold : GoodIn wsX5_digest wsX5_reachTold := goodIn_r _ [72, 4, 7, 73, 74, 75, 76, 77, 78, 79, 80, 81, 82, 83, 84, 85, 86, 87, 88, 89, 90, 91, 92, 93, 94, 95, 96, 97, 98, 99] (by decide +kernel) (by decide +kernel)
set_option maxRecDepth 20000 in
theorem gX5_digest_X5_reachTold : GoodIn wsX5_digest (wsV RX5 128 RX5 yX5_reachTold wsX5_reachTold) := goodIn_app (goodIn_of _ (by decide +kernel)) ggX5_digest_X5_reachTold
theorem dX5_digest_0 : decode cX5_digest 0 = .ok (.aload_n 0, 1) := by decide +kernel
theorem dX5_digest_1 : decode cX5_digest 1 = .ok (.iconst 0, 1) := by decide +kernel
theorem dX5_digest_2 : decode cX5_digest 2 = .ok (.putfield 53, 3) := by decide +kernel
theorem dX5_digest_5 : decode cX5_digest 5 = .ok (.ldc2_w 151, 3) := by decide +kernel
theorem dX5_digest_8 : decode cX5_digest 8 = .ok (.lstore_n 1, 1) := by decide +kernel
theorem dX5_digest_9 : decode cX5_digest 9 = .ok (.iconst 0, 1) := by decide +kernel
theorem dX5_digest_10 : decode cX5_digest 10 = .ok (.istore_n 3, 1) := by decide +kernel
theorem dX5_digest_11 : decode cX5_digest 11 = .ok (.iload_n 3, 1) := by decide +kernel
theorem dX5_digest_12 : decode cX5_digest 12 = .ok (.bipush 13, 2) := by decide +kernel
theorem dX5_digest_14 : decode cX5_digest 14 = .ok (.if_icmp .ge 25, 3) := by decide +kernel
theorem dX5_digest_17 : decode cX5_digest 17 = .ok (.lload_n 1, 1) := by decide +kernel
theorem dX5_digest_18 : decode cX5_digest 18 = .ok (.ldc2_w 153, 3) := by decide +kernel
theorem dX5_digest_21 : decode cX5_digest 21 = .ok (.lmul, 1) := by decide +kernel
theorem dX5_digest_22 : decode cX5_digest 22 = .ok (.aload_n 0, 1) := by decide +kernel
theorem dX5_digest_23 : decode cX5_digest 23 = .ok (.getfield 43, 3) := by decide +kernel
theorem dX5_digest_26 : decode cX5_digest 26 = .ok (.iload_n 3, 1) := by decide +kernel
theorem dX5_digest_27 : decode cX5_digest 27 = .ok (.invokevirtual 131, 3) := by decide +kernel
theorem dX5_digest_30 : decode cX5_digest 30 = .ok (.i2l, 1) := by decide +kernel
theorem dX5_digest_31 : decode cX5_digest 31 = .ok (.ladd, 1) := by decide +kernel
theorem dX5_digest_32 : decode cX5_digest 32 = .ok (.lstore_n 1, 1) := by decide +kernel
theorem dX5_digest_33 : decode cX5_digest 33 = .ok (.iinc 3 1, 3) := by decide +kernel
theorem dX5_digest_36 : decode cX5_digest 36 = .ok (.goto (-25), 3) := by decide +kernel
theorem dX5_digest_39 : decode cX5_digest 39 = .ok (.iconst 0, 1) := by decide +kernel
theorem dX5_digest_40 : decode cX5_digest 40 = .ok (.istore_n 3, 1) := by decide +kernel
theorem dX5_digest_41 : decode cX5_digest 41 = .ok (.iload_n 3, 1) := by decide +kernel
theorem dX5_digest_42 : decode cX5_digest 42 = .ok (.bipush 8, 2) := by decide +kernel
theorem dX5_digest_44 : decode cX5_digest 44 = .ok (.if_icmp .ge 35, 3) := by decide +kernel
theorem dX5_digest_47 : decode cX5_digest 47 = .ok (.lload_n 1, 1) := by decide +kernel
theorem dX5_digest_48 : decode cX5_digest 48 = .ok (.ldc2_w 153, 3) := by decide +kernel
theorem dX5_digest_51 : decode cX5_digest 51 = .ok (.lmul, 1) := by decide +kernel
theorem dX5_digest_52 : decode cX5_digest 52 = .ok (.aload_n 0, 1) := by decide +kernel
theorem dX5_digest_53 : decode cX5_digest 53 = .ok (.getfield 7, 3) := by decide +kernel
theorem dX5_digest_56 : decode cX5_digest 56 = .ok (.iload_n 3, 1) := by decide +kernel
theorem dX5_digest_57 : decode cX5_digest 57 = .ok (.iaload, 1) := by decide +kernel
theorem dX5_digest_58 : decode cX5_digest 58 = .ok (.i2l, 1) := by decide +kernel
theorem dX5_digest_59 : decode cX5_digest 59 = .ok (.ladd, 1) := by decide +kernel
theorem dX5_digest_60 : decode cX5_digest 60 = .ok (.ldc2_w 153, 3) := by decide +kernel
theorem dX5_digest_63 : decode cX5_digest 63 = .ok (.lmul, 1) := by decide +kernel
theorem dX5_digest_64 : decode cX5_digest 64 = .ok (.aload_n 0, 1) := by decide +kernel
theorem dX5_digest_65 : decode cX5_digest 65 = .ok (.getfield 13, 3) := by decide +kernel
theorem dX5_digest_68 : decode cX5_digest 68 = .ok (.iload_n 3, 1) := by decide +kernel
theorem dX5_digest_69 : decode cX5_digest 69 = .ok (.iaload, 1) := by decide +kernel
theorem dX5_digest_70 : decode cX5_digest 70 = .ok (.i2l, 1) := by decide +kernel
theorem dX5_digest_71 : decode cX5_digest 71 = .ok (.ladd, 1) := by decide +kernel
theorem dX5_digest_72 : decode cX5_digest 72 = .ok (.lstore_n 1, 1) := by decide +kernel
theorem dX5_digest_73 : decode cX5_digest 73 = .ok (.iinc 3 1, 3) := by decide +kernel
theorem dX5_digest_76 : decode cX5_digest 76 = .ok (.goto (-35), 3) := by decide +kernel
theorem dX5_digest_79 : decode cX5_digest 79 = .ok (.iconst 0, 1) := by decide +kernel
theorem dX5_digest_80 : decode cX5_digest 80 = .ok (.istore_n 3, 1) := by decide +kernel
theorem dX5_digest_81 : decode cX5_digest 81 = .ok (.iload_n 3, 1) := by decide +kernel
theorem dX5_digest_82 : decode cX5_digest 82 = .ok (.bipush 10, 2) := by decide +kernel
theorem dX5_digest_84 : decode cX5_digest 84 = .ok (.aload_n 0, 1) := by decide +kernel
theorem dX5_digest_85 : decode cX5_digest 85 = .ok (.getfield 56, 3) := by decide +kernel
theorem dX5_digest_88 : decode cX5_digest 88 = .ok (.imul, 1) := by decide +kernel
theorem dX5_digest_89 : decode cX5_digest 89 = .ok (.if_icmp .ge 29, 3) := by decide +kernel
theorem dX5_digest_92 : decode cX5_digest 92 = .ok (.lload_n 1, 1) := by decide +kernel
theorem dX5_digest_93 : decode cX5_digest 93 = .ok (.ldc2_w 153, 3) := by decide +kernel
theorem dX5_digest_96 : decode cX5_digest 96 = .ok (.lmul, 1) := by decide +kernel
theorem dX5_digest_97 : decode cX5_digest 97 = .ok (.aload_n 0, 1) := by decide +kernel
theorem dX5_digest_98 : decode cX5_digest 98 = .ok (.iload_n 3, 1) := by decide +kernel
theorem dX5_digest_99 : decode cX5_digest 99 = .ok (.bipush 10, 2) := by decide +kernel
theorem dX5_digest_101 : decode cX5_digest 101 = .ok (.idiv, 1) := by decide +kernel
theorem dX5_digest_102 : decode cX5_digest 102 = .ok (.iload_n 3, 1) := by decide +kernel
theorem dX5_digest_103 : decode cX5_digest 103 = .ok (.bipush 10, 2) := by decide +kernel
theorem dX5_digest_105 : decode cX5_digest 105 = .ok (.irem, 1) := by decide +kernel
theorem dX5_digest_106 : decode cX5_digest 106 = .ok (.invokevirtual 112, 3) := by decide +kernel
theorem dX5_digest_109 : decode cX5_digest 109 = .ok (.i2l, 1) := by decide +kernel
theorem dX5_digest_110 : decode cX5_digest 110 = .ok (.ladd, 1) := by decide +kernel
theorem dX5_digest_111 : decode cX5_digest 111 = .ok (.lstore_n 1, 1) := by decide +kernel
theorem dX5_digest_112 : decode cX5_digest 112 = .ok (.iinc 3 1, 3) := by decide +kernel
theorem dX5_digest_115 : decode cX5_digest 115 = .ok (.goto (-34), 3) := by decide +kernel
theorem dX5_digest_118 : decode cX5_digest 118 = .ok (.iconst 0, 1) := by decide +kernel
theorem dX5_digest_119 : decode cX5_digest 119 = .ok (.istore_n 3, 1) := by decide +kernel
theorem dX5_digest_120 : decode cX5_digest 120 = .ok (.iload_n 3, 1) := by decide +kernel
theorem dX5_digest_121 : decode cX5_digest 121 = .ok (.iconst 4, 1) := by decide +kernel
theorem dX5_digest_122 : decode cX5_digest 122 = .ok (.aload_n 0, 1) := by decide +kernel
theorem dX5_digest_123 : decode cX5_digest 123 = .ok (.getfield 63, 3) := by decide +kernel
theorem dX5_digest_126 : decode cX5_digest 126 = .ok (.imul, 1) := by decide +kernel
theorem dX5_digest_127 : decode cX5_digest 127 = .ok (.if_icmp .ge 27, 3) := by decide +kernel
theorem dX5_digest_130 : decode cX5_digest 130 = .ok (.lload_n 1, 1) := by decide +kernel
theorem dX5_digest_131 : decode cX5_digest 131 = .ok (.ldc2_w 153, 3) := by decide +kernel
theorem dX5_digest_134 : decode cX5_digest 134 = .ok (.lmul, 1) := by decide +kernel
theorem dX5_digest_135 : decode cX5_digest 135 = .ok (.aload_n 0, 1) := by decide +kernel
theorem dX5_digest_136 : decode cX5_digest 136 = .ok (.iload_n 3, 1) := by decide +kernel
theorem dX5_digest_137 : decode cX5_digest 137 = .ok (.iconst 4, 1) := by decide +kernel
theorem dX5_digest_138 : decode cX5_digest 138 = .ok (.idiv, 1) := by decide +kernel
theorem dX5_digest_139 : decode cX5_digest 139 = .ok (.iload_n 3, 1) := by decide +kernel
theorem dX5_digest_140 : decode cX5_digest 140 = .ok (.iconst 4, 1) := by decide +kernel
theorem dX5_digest_141 : decode cX5_digest 141 = .ok (.irem, 1) := by decide +kernel
theorem dX5_digest_142 : decode cX5_digest 142 = .ok (.invokevirtual 125, 3) := by decide +kernel
theorem dX5_digest_145 : decode cX5_digest 145 = .ok (.i2l, 1) := by decide +kernel
theorem dX5_digest_146 : decode cX5_digest 146 = .ok (.ladd, 1) := by decide +kernel
theorem dX5_digest_147 : decode cX5_digest 147 = .ok (.lstore_n 1, 1) := by decide +kernel
theorem dX5_digest_148 : decode cX5_digest 148 = .ok (.iinc 3 1, 3) := by decide +kernel
theorem dX5_digest_151 : decode cX5_digest 151 = .ok (.goto (-31), 3) := by decide +kernel
theorem dX5_digest_154 : decode cX5_digest 154 = .ok (.iconst 0, 1) := by decide +kernel
theorem dX5_digest_155 : decode cX5_digest 155 = .ok (.istore_n 3, 1) := by decide +kernel
theorem dX5_digest_156 : decode cX5_digest 156 = .ok (.iload_n 3, 1) := by decide +kernel
theorem dX5_digest_157 : decode cX5_digest 157 = .ok (.bipush 32, 2) := by decide +kernel
theorem dX5_digest_159 : decode cX5_digest 159 = .ok (.if_icmp .ge 27, 3) := by decide +kernel
theorem dX5_digest_162 : decode cX5_digest 162 = .ok (.lload_n 1, 1) := by decide +kernel
theorem dX5_digest_163 : decode cX5_digest 163 = .ok (.ldc2_w 153, 3) := by decide +kernel
theorem dX5_digest_166 : decode cX5_digest 166 = .ok (.lmul, 1) := by decide +kernel
theorem dX5_digest_167 : decode cX5_digest 167 = .ok (.aload_n 0, 1) := by decide +kernel
theorem dX5_digest_168 : decode cX5_digest 168 = .ok (.iload_n 3, 1) := by decide +kernel
theorem dX5_digest_169 : decode cX5_digest 169 = .ok (.iconst 2, 1) := by decide +kernel
theorem dX5_digest_170 : decode cX5_digest 170 = .ok (.idiv, 1) := by decide +kernel
theorem dX5_digest_171 : decode cX5_digest 171 = .ok (.iload_n 3, 1) := by decide +kernel
theorem dX5_digest_172 : decode cX5_digest 172 = .ok (.iconst 2, 1) := by decide +kernel
theorem dX5_digest_173 : decode cX5_digest 173 = .ok (.irem, 1) := by decide +kernel
theorem dX5_digest_174 : decode cX5_digest 174 = .ok (.invokevirtual 128, 3) := by decide +kernel
theorem dX5_digest_177 : decode cX5_digest 177 = .ok (.i2l, 1) := by decide +kernel
theorem dX5_digest_178 : decode cX5_digest 178 = .ok (.ladd, 1) := by decide +kernel
theorem dX5_digest_179 : decode cX5_digest 179 = .ok (.lstore_n 1, 1) := by decide +kernel
theorem dX5_digest_180 : decode cX5_digest 180 = .ok (.iinc 3 1, 3) := by decide +kernel
theorem dX5_digest_183 : decode cX5_digest 183 = .ok (.goto (-27), 3) := by decide +kernel
theorem dX5_digest_186 : decode cX5_digest 186 = .ok (.lload_n 1, 1) := by decide +kernel
theorem dX5_digest_187 : decode cX5_digest 187 = .ok (.lreturn, 1) := by decide +kernel
theorem dJ9_floorMod_7cf53_0 : decode cJ9_floorMod_7cf53 0 = .ok (.iload_n 0, 1) := by decide +kernel
theorem dJ9_floorMod_7cf53_1 : decode cJ9_floorMod_7cf53 1 = .ok (.iload_n 1, 1) := by decide +kernel
theorem dJ9_floorMod_7cf53_2 : decode cJ9_floorMod_7cf53 2 = .ok (.irem, 1) := by decide +kernel
theorem dJ9_floorMod_7cf53_3 : decode cJ9_floorMod_7cf53 3 = .ok (.istore_n 2, 1) := by decide +kernel
theorem dJ9_floorMod_7cf53_4 : decode cJ9_floorMod_7cf53 4 = .ok (.iload_n 0, 1) := by decide +kernel
theorem dJ9_floorMod_7cf53_5 : decode cJ9_floorMod_7cf53 5 = .ok (.iload_n 1, 1) := by decide +kernel
theorem dJ9_floorMod_7cf53_6 : decode cJ9_floorMod_7cf53 6 = .ok (.ixor, 1) := by decide +kernel
theorem dJ9_floorMod_7cf53_7 : decode cJ9_floorMod_7cf53 7 = .ok (.ifCond .ge 11, 3) := by decide +kernel
theorem dJ9_floorMod_7cf53_10 : decode cJ9_floorMod_7cf53 10 = .ok (.iload_n 2, 1) := by decide +kernel
theorem dJ9_floorMod_7cf53_11 : decode cJ9_floorMod_7cf53 11 = .ok (.ifCond .eq 7, 3) := by decide +kernel
theorem dJ9_floorMod_7cf53_14 : decode cJ9_floorMod_7cf53 14 = .ok (.iload_n 2, 1) := by decide +kernel
theorem dJ9_floorMod_7cf53_15 : decode cJ9_floorMod_7cf53 15 = .ok (.iload_n 1, 1) := by decide +kernel
theorem dJ9_floorMod_7cf53_16 : decode cJ9_floorMod_7cf53 16 = .ok (.iadd, 1) := by decide +kernel
theorem dJ9_floorMod_7cf53_17 : decode cJ9_floorMod_7cf53 17 = .ok (.ireturn, 1) := by decide +kernel
theorem dJ9_floorMod_7cf53_18 : decode cJ9_floorMod_7cf53 18 = .ok (.iload_n 2, 1) := by decide +kernel
theorem dJ9_floorMod_7cf53_19 : decode cJ9_floorMod_7cf53 19 = .ok (.ireturn, 1) := by decide +kernel
theorem dJ9_abs_0f7a4_0 : decode cJ9_abs_0f7a4 0 = .ok (.iload_n 0, 1) := by decide +kernel
theorem dJ9_abs_0f7a4_1 : decode cJ9_abs_0f7a4 1 = .ok (.ifCond .ge 8, 3) := by decide +kernel
theorem dJ9_abs_0f7a4_4 : decode cJ9_abs_0f7a4 4 = .ok (.iload_n 0, 1) := by decide +kernel
theorem dJ9_abs_0f7a4_5 : decode cJ9_abs_0f7a4 5 = .ok (.ineg, 1) := by decide +kernel
theorem dJ9_abs_0f7a4_6 : decode cJ9_abs_0f7a4 6 = .ok (.goto 4, 3) := by decide +kernel
theorem dJ9_abs_0f7a4_9 : decode cJ9_abs_0f7a4 9 = .ok (.iload_n 0, 1) := by decide +kernel
theorem dJ9_abs_0f7a4_10 : decode cJ9_abs_0f7a4 10 = .ok (.ireturn, 1) := by decide +kernel
theorem dJ9_max_7cf53_0 : decode cJ9_max_7cf53 0 = .ok (.iload_n 0, 1) := by decide +kernel
theorem dJ9_max_7cf53_1 : decode cJ9_max_7cf53 1 = .ok (.iload_n 1, 1) := by decide +kernel
theorem dJ9_max_7cf53_2 : decode cJ9_max_7cf53 2 = .ok (.if_icmp .lt 7, 3) := by decide +kernel
theorem dJ9_max_7cf53_5 : decode cJ9_max_7cf53 5 = .ok (.iload_n 0, 1) := by decide +kernel
theorem dJ9_max_7cf53_6 : decode cJ9_max_7cf53 6 = .ok (.goto 4, 3) := by decide +kernel
theorem dJ9_max_7cf53_9 : decode cJ9_max_7cf53 9 = .ok (.iload_n 1, 1) := by decide +kernel
theorem dJ9_max_7cf53_10 : decode cJ9_max_7cf53 10 = .ok (.ireturn, 1) := by decide +kernel
theorem dJ9_min_7cf53_0 : decode cJ9_min_7cf53 0 = .ok (.iload_n 0, 1) := by decide +kernel
theorem dJ9_min_7cf53_1 : decode cJ9_min_7cf53 1 = .ok (.iload_n 1, 1) := by decide +kernel
theorem dJ9_min_7cf53_2 : decode cJ9_min_7cf53 2 = .ok (.if_icmp .gt 7, 3) := by decide +kernel
theorem dJ9_min_7cf53_5 : decode cJ9_min_7cf53 5 = .ok (.iload_n 0, 1) := by decide +kernel
theorem dJ9_min_7cf53_6 : decode cJ9_min_7cf53 6 = .ok (.goto 4, 3) := by decide +kernel
theorem dJ9_min_7cf53_9 : decode cJ9_min_7cf53 9 = .ok (.iload_n 1, 1) := by decide +kernel
theorem dJ9_min_7cf53_10 : decode cJ9_min_7cf53 10 = .ok (.ireturn, 1) := by decide +kernel
set_option maxRecDepth 20000 in
theorem ggL_setDrift_X3_setDrift : GoodIn wsL_setDrift wsX3_setDrift := goodIn_ca (goodIn_ca (goodIn_r _ [7, 8, 9, 10, 6, 11, 12, 13, 14, 15, 16, 17, 18, 19, 20, 21, 22] (by decide +kernel) (by decide +kernel)) (goodIn_sub (fun _ h => List.mem_cons_of_mem _ (List.mem_append_left _ (List.mem_append_right _ h))) (by decide +kernel))) (goodIn_sub (fun _ h => List.mem_cons_of_mem _ (List.mem_append_right _ h)) (by decide +kernel))
set_option maxRecDepth 20000 in
theorem gL_setDrift_X3_setDrift : GoodIn wsL_setDrift (wsV RL 7 RX3 yX3_setDrift wsX3_setDrift) := goodIn_app (goodIn_of _ (by decide +kernel)) ggL_setDrift_X3_setDrift
theorem dL_setDrift_0 : decode cL_setDrift 0 = .ok (.aload_n 3, 1) := by decide +kernel
theorem dL_setDrift_1 : decode cL_setDrift 1 = .ok (.iconst 0, 1) := by decide +kernel
theorem dL_setDrift_2 : decode cL_setDrift 2 = .ok (.aload_n 0, 1) := by decide +kernel
theorem dL_setDrift_3 : decode cL_setDrift 3 = .ok (.iload_n 1, 1) := by decide +kernel
theorem dL_setDrift_4 : decode cL_setDrift 4 = .ok (.iload_n 2, 1) := by decide +kernel
theorem dL_setDrift_5 : decode cL_setDrift 5 = .ok (.invokevirtual 7, 3) := by decide +kernel
theorem dL_setDrift_8 : decode cL_setDrift 8 = .ok (.i2l, 1) := by decide +kernel
theorem dL_setDrift_9 : decode cL_setDrift 9 = .ok (.lastore, 1) := by decide +kernel
theorem dL_setDrift_10 : decode cL_setDrift 10 = .ok (.goto 11, 3) := by decide +kernel
theorem dL_setDrift_13 : decode cL_setDrift 13 = .ok (.astore 4, 2) := by decide +kernel
theorem dL_setDrift_15 : decode cL_setDrift 15 = .ok (.iconst 1, 1) := by decide +kernel
theorem dL_setDrift_16 : decode cL_setDrift 16 = .ok (.ireturn, 1) := by decide +kernel
theorem dL_setDrift_17 : decode cL_setDrift 17 = .ok (.astore 4, 2) := by decide +kernel
theorem dL_setDrift_19 : decode cL_setDrift 19 = .ok (.iconst 2, 1) := by decide +kernel
theorem dL_setDrift_20 : decode cL_setDrift 20 = .ok (.ireturn, 1) := by decide +kernel
theorem dL_setDrift_21 : decode cL_setDrift 21 = .ok (.iconst 0, 1) := by decide +kernel
theorem dL_setDrift_22 : decode cL_setDrift 22 = .ok (.ireturn, 1) := by decide +kernel
set_option maxRecDepth 20000 in
theorem ggL_setRun_X3_setRun : GoodIn wsL_setRun wsX3_setRun := goodIn_ca (goodIn_ca (goodIn_r _ [7, 8, 9, 10, 6, 11, 12, 13, 14, 15, 16, 17, 18, 19, 20, 21, 22] (by decide +kernel) (by decide +kernel)) (goodIn_sub (fun _ h => List.mem_cons_of_mem _ (List.mem_append_left _ (List.mem_append_right _ h))) (by decide +kernel))) (goodIn_sub (fun _ h => List.mem_cons_of_mem _ (List.mem_append_right _ h)) (by decide +kernel))
set_option maxRecDepth 20000 in
theorem gL_setRun_X3_setRun : GoodIn wsL_setRun (wsV RL 17 RX3 yX3_setRun wsX3_setRun) := goodIn_app (goodIn_of _ (by decide +kernel)) ggL_setRun_X3_setRun
theorem dL_setRun_0 : decode cL_setRun 0 = .ok (.aload_n 3, 1) := by decide +kernel
theorem dL_setRun_1 : decode cL_setRun 1 = .ok (.iconst 0, 1) := by decide +kernel
theorem dL_setRun_2 : decode cL_setRun 2 = .ok (.aload_n 0, 1) := by decide +kernel
theorem dL_setRun_3 : decode cL_setRun 3 = .ok (.iload_n 1, 1) := by decide +kernel
theorem dL_setRun_4 : decode cL_setRun 4 = .ok (.iload_n 2, 1) := by decide +kernel
theorem dL_setRun_5 : decode cL_setRun 5 = .ok (.invokevirtual 17, 3) := by decide +kernel
theorem dL_setRun_8 : decode cL_setRun 8 = .ok (.i2l, 1) := by decide +kernel
theorem dL_setRun_9 : decode cL_setRun 9 = .ok (.lastore, 1) := by decide +kernel
theorem dL_setRun_10 : decode cL_setRun 10 = .ok (.goto 11, 3) := by decide +kernel
theorem dL_setRun_13 : decode cL_setRun 13 = .ok (.astore 4, 2) := by decide +kernel
theorem dL_setRun_15 : decode cL_setRun 15 = .ok (.iconst 1, 1) := by decide +kernel
theorem dL_setRun_16 : decode cL_setRun 16 = .ok (.ireturn, 1) := by decide +kernel
theorem dL_setRun_17 : decode cL_setRun 17 = .ok (.astore 4, 2) := by decide +kernel
theorem dL_setRun_19 : decode cL_setRun 19 = .ok (.iconst 2, 1) := by decide +kernel
theorem dL_setRun_20 : decode cL_setRun 20 = .ok (.ireturn, 1) := by decide +kernel
theorem dL_setRun_21 : decode cL_setRun 21 = .ok (.iconst 0, 1) := by decide +kernel
theorem dL_setRun_22 : decode cL_setRun 22 = .ok (.ireturn, 1) := by decide +kernel
set_option maxRecDepth 20000 in
theorem ggL_buy_X3_buy : GoodIn wsL_buy wsX3_buy := goodIn_ca (goodIn_ca (goodIn_ca (goodIn_r _ [8, 9, 10, 11, 12, 13, 14, 7, 15, 16, 17, 18, 19, 20, 21, 22, 23, 24, 25, 26, 27, 28, 29, 30, 31, 32, 33, 34, 35, 36, 37, 38, 39, 40, 41] (by decide +kernel) (by decide +kernel)) (goodIn_sub (fun _ h => List.mem_cons_of_mem _ (List.mem_append_left _ (List.mem_append_left _ (List.mem_append_right _ h)))) (by decide +kernel))) (goodIn_sub (fun _ h => List.mem_cons_of_mem _ (List.mem_append_left _ (List.mem_append_right _ h))) (by decide +kernel))) (goodIn_sub (fun _ h => List.mem_cons_of_mem _ (List.mem_append_right _ h)) (by decide +kernel))
set_option maxRecDepth 20000 in
theorem gL_buy_X3_buy : GoodIn wsL_buy (wsV RL 20 RX3 yX3_buy wsX3_buy) := goodIn_app (goodIn_of _ (by decide +kernel)) ggL_buy_X3_buy
theorem dL_buy_0 : decode cL_buy 0 = .ok (.aload_n 3, 1) := by decide +kernel
theorem dL_buy_1 : decode cL_buy 1 = .ok (.iconst 0, 1) := by decide +kernel
theorem dL_buy_2 : decode cL_buy 2 = .ok (.aload_n 0, 1) := by decide +kernel
theorem dL_buy_3 : decode cL_buy 3 = .ok (.iload_n 1, 1) := by decide +kernel
theorem dL_buy_4 : decode cL_buy 4 = .ok (.iload_n 2, 1) := by decide +kernel
theorem dL_buy_5 : decode cL_buy 5 = .ok (.invokevirtual 20, 3) := by decide +kernel
theorem dL_buy_8 : decode cL_buy 8 = .ok (.i2l, 1) := by decide +kernel
theorem dL_buy_9 : decode cL_buy 9 = .ok (.lastore, 1) := by decide +kernel
theorem dL_buy_10 : decode cL_buy 10 = .ok (.goto 15, 3) := by decide +kernel
theorem dL_buy_13 : decode cL_buy 13 = .ok (.astore 4, 2) := by decide +kernel
theorem dL_buy_15 : decode cL_buy 15 = .ok (.iconst 1, 1) := by decide +kernel
theorem dL_buy_16 : decode cL_buy 16 = .ok (.ireturn, 1) := by decide +kernel
theorem dL_buy_17 : decode cL_buy 17 = .ok (.astore 4, 2) := by decide +kernel
theorem dL_buy_19 : decode cL_buy 19 = .ok (.iconst 2, 1) := by decide +kernel
theorem dL_buy_20 : decode cL_buy 20 = .ok (.ireturn, 1) := by decide +kernel
theorem dL_buy_21 : decode cL_buy 21 = .ok (.astore 4, 2) := by decide +kernel
theorem dL_buy_23 : decode cL_buy 23 = .ok (.iconst 3, 1) := by decide +kernel
theorem dL_buy_24 : decode cL_buy 24 = .ok (.ireturn, 1) := by decide +kernel
theorem dL_buy_25 : decode cL_buy 25 = .ok (.iconst 0, 1) := by decide +kernel
theorem dL_buy_26 : decode cL_buy 26 = .ok (.ireturn, 1) := by decide +kernel
set_option maxRecDepth 20000 in
theorem ggL_make_X3_make : GoodIn wsL_make wsX3_make := goodIn_ca (goodIn_ca (goodIn_ca (goodIn_r _ [8, 9, 10, 11, 12, 13, 7, 14, 15, 16, 17, 18, 19, 20, 21, 22, 23, 24, 25, 26, 27, 28, 29, 30, 31, 32, 33, 34, 35, 36, 37, 38, 39, 40, 41, 42, 43, 44, 45, 46, 47, 48, 49, 50, 51, 52, 53, 54, 55, 56, 57, 58, 59, 60, 61, 62, 63, 64, 65, 66, 67, 68, 69, 70, 71, 72] (by decide +kernel) (by decide +kernel)) (goodIn_sub (fun _ h => List.mem_cons_of_mem _ (List.mem_append_left _ (List.mem_append_left _ (List.mem_append_right _ h)))) (by decide +kernel))) (goodIn_sub (fun _ h => List.mem_cons_of_mem _ (List.mem_append_left _ (List.mem_append_right _ h))) (by decide +kernel))) (goodIn_sub (fun _ h => List.mem_cons_of_mem _ (List.mem_append_right _ h)) (by decide +kernel))
set_option maxRecDepth 20000 in
theorem gL_make_X3_make : GoodIn wsL_make (wsV RL 25 RX3 yX3_make wsX3_make) := goodIn_app (goodIn_of _ (by decide +kernel)) ggL_make_X3_make
theorem dL_make_0 : decode cL_make 0 = .ok (.aload 4, 2) := by decide +kernel
theorem dL_make_2 : decode cL_make 2 = .ok (.iconst 0, 1) := by decide +kernel
theorem dL_make_3 : decode cL_make 3 = .ok (.aload_n 0, 1) := by decide +kernel
theorem dL_make_4 : decode cL_make 4 = .ok (.iload_n 1, 1) := by decide +kernel
theorem dL_make_5 : decode cL_make 5 = .ok (.iload_n 2, 1) := by decide +kernel
theorem dL_make_6 : decode cL_make 6 = .ok (.iload_n 3, 1) := by decide +kernel
theorem dL_make_7 : decode cL_make 7 = .ok (.invokevirtual 25, 3) := by decide +kernel
theorem dL_make_10 : decode cL_make 10 = .ok (.i2l, 1) := by decide +kernel
theorem dL_make_11 : decode cL_make 11 = .ok (.lastore, 1) := by decide +kernel
theorem dL_make_12 : decode cL_make 12 = .ok (.goto 15, 3) := by decide +kernel
theorem dL_make_15 : decode cL_make 15 = .ok (.astore 5, 2) := by decide +kernel
theorem dL_make_17 : decode cL_make 17 = .ok (.iconst 1, 1) := by decide +kernel
theorem dL_make_18 : decode cL_make 18 = .ok (.ireturn, 1) := by decide +kernel
theorem dL_make_19 : decode cL_make 19 = .ok (.astore 5, 2) := by decide +kernel
theorem dL_make_21 : decode cL_make 21 = .ok (.iconst 2, 1) := by decide +kernel
theorem dL_make_22 : decode cL_make 22 = .ok (.ireturn, 1) := by decide +kernel
theorem dL_make_23 : decode cL_make 23 = .ok (.astore 5, 2) := by decide +kernel
theorem dL_make_25 : decode cL_make 25 = .ok (.iconst 3, 1) := by decide +kernel
theorem dL_make_26 : decode cL_make 26 = .ok (.ireturn, 1) := by decide +kernel
theorem dL_make_27 : decode cL_make 27 = .ok (.iconst 0, 1) := by decide +kernel
theorem dL_make_28 : decode cL_make 28 = .ok (.ireturn, 1) := by decide +kernel
set_option maxRecDepth 20000 in
theorem ggL_net_X3_net : GoodIn wsL_net wsX3_net := goodIn_ca (goodIn_ca (goodIn_ca (goodIn_r _ [8, 9, 10, 11, 12, 13, 14, 15, 7, 16, 17, 18, 19, 20, 21, 22, 23, 24, 25, 26, 27, 28, 29, 30, 31, 32, 33, 34, 35, 36, 37, 38, 39, 40, 41, 42, 43, 44, 45, 46, 47, 48, 49, 50, 51, 52, 53, 54, 55, 56, 57, 58, 59, 60, 61, 62, 63, 64, 65, 66, 67, 68, 69, 70] (by decide +kernel) (by decide +kernel)) (goodIn_sub (fun _ h => List.mem_cons_of_mem _ (List.mem_append_left _ (List.mem_append_left _ (List.mem_append_right _ h)))) (by decide +kernel))) (goodIn_sub (fun _ h => List.mem_cons_of_mem _ (List.mem_append_left _ (List.mem_append_right _ h))) (by decide +kernel))) (goodIn_sub (fun _ h => List.mem_cons_of_mem _ (List.mem_append_right _ h)) (by decide +kernel))
set_option maxRecDepth 20000 in
theorem gL_net_X3_net : GoodIn wsL_net (wsV RL 29 RX3 yX3_net wsX3_net) := goodIn_app (goodIn_of _ (by decide +kernel)) ggL_net_X3_net
theorem dL_net_0 : decode cL_net 0 = .ok (.aload_n 3, 1) := by decide +kernel
theorem dL_net_1 : decode cL_net 1 = .ok (.iconst 0, 1) := by decide +kernel
theorem dL_net_2 : decode cL_net 2 = .ok (.aload_n 0, 1) := by decide +kernel
theorem dL_net_3 : decode cL_net 3 = .ok (.iload_n 1, 1) := by decide +kernel
theorem dL_net_4 : decode cL_net 4 = .ok (.iload_n 2, 1) := by decide +kernel
theorem dL_net_5 : decode cL_net 5 = .ok (.invokevirtual 29, 3) := by decide +kernel
theorem dL_net_8 : decode cL_net 8 = .ok (.i2l, 1) := by decide +kernel
theorem dL_net_9 : decode cL_net 9 = .ok (.lastore, 1) := by decide +kernel
theorem dL_net_10 : decode cL_net 10 = .ok (.goto 15, 3) := by decide +kernel
theorem dL_net_13 : decode cL_net 13 = .ok (.astore 4, 2) := by decide +kernel
theorem dL_net_15 : decode cL_net 15 = .ok (.iconst 1, 1) := by decide +kernel
theorem dL_net_16 : decode cL_net 16 = .ok (.ireturn, 1) := by decide +kernel
theorem dL_net_17 : decode cL_net 17 = .ok (.astore 4, 2) := by decide +kernel
theorem dL_net_19 : decode cL_net 19 = .ok (.iconst 2, 1) := by decide +kernel
theorem dL_net_20 : decode cL_net 20 = .ok (.ireturn, 1) := by decide +kernel
theorem dL_net_21 : decode cL_net 21 = .ok (.astore 4, 2) := by decide +kernel
theorem dL_net_23 : decode cL_net 23 = .ok (.iconst 3, 1) := by decide +kernel
theorem dL_net_24 : decode cL_net 24 = .ok (.ireturn, 1) := by decide +kernel
theorem dL_net_25 : decode cL_net 25 = .ok (.iconst 0, 1) := by decide +kernel
theorem dL_net_26 : decode cL_net 26 = .ok (.ireturn, 1) := by decide +kernel
set_option maxRecDepth 20000 in
theorem ggL_send_X3_send : GoodIn wsL_send wsX3_send := goodIn_ca (goodIn_r _ [6, 7, 8, 9, 10, 11, 5, 12, 13, 14, 15, 16, 17, 18, 19, 20, 21, 22, 23, 24, 25, 26, 27, 28, 29, 30, 31, 32, 33, 34, 35, 36, 37, 38, 39, 40, 41, 42, 43, 44] (by decide +kernel) (by decide +kernel)) (goodIn_sub (fun _ h => List.mem_cons_of_mem _ (List.mem_append_right _ h)) (by decide +kernel))
set_option maxRecDepth 20000 in
theorem gL_send_X3_send : GoodIn wsL_send (wsV RL 32 RX3 yX3_send wsX3_send) := goodIn_app (goodIn_of _ (by decide +kernel)) ggL_send_X3_send
theorem dL_send_0 : decode cL_send 0 = .ok (.aload_n 3, 1) := by decide +kernel
theorem dL_send_1 : decode cL_send 1 = .ok (.iconst 0, 1) := by decide +kernel
theorem dL_send_2 : decode cL_send 2 = .ok (.aload_n 0, 1) := by decide +kernel
theorem dL_send_3 : decode cL_send 3 = .ok (.iload_n 1, 1) := by decide +kernel
theorem dL_send_4 : decode cL_send 4 = .ok (.iload_n 2, 1) := by decide +kernel
theorem dL_send_5 : decode cL_send 5 = .ok (.invokevirtual 32, 3) := by decide +kernel
theorem dL_send_8 : decode cL_send 8 = .ok (.i2l, 1) := by decide +kernel
theorem dL_send_9 : decode cL_send 9 = .ok (.lastore, 1) := by decide +kernel
theorem dL_send_10 : decode cL_send 10 = .ok (.goto 7, 3) := by decide +kernel
theorem dL_send_13 : decode cL_send 13 = .ok (.astore 4, 2) := by decide +kernel
theorem dL_send_15 : decode cL_send 15 = .ok (.iconst 1, 1) := by decide +kernel
theorem dL_send_16 : decode cL_send 16 = .ok (.ireturn, 1) := by decide +kernel
theorem dL_send_17 : decode cL_send 17 = .ok (.iconst 0, 1) := by decide +kernel
theorem dL_send_18 : decode cL_send 18 = .ok (.ireturn, 1) := by decide +kernel
set_option maxRecDepth 20000 in
theorem ggL_tar_X3_tar : GoodIn wsL_tar wsX3_tar := goodIn_ca (goodIn_ca (goodIn_r _ [7, 8, 9, 10, 11, 12, 13, 14, 6, 15, 16, 17, 18, 19, 20, 21, 22, 23, 24, 25, 26, 27, 28, 29, 30, 31, 32, 33, 34, 35, 36, 37, 38, 39, 40, 41, 42, 43, 44, 45, 46, 47, 48, 49, 50, 51, 52, 53, 54, 55, 56, 57, 58, 59] (by decide +kernel) (by decide +kernel)) (goodIn_sub (fun _ h => List.mem_cons_of_mem _ (List.mem_append_left _ (List.mem_append_right _ h))) (by decide +kernel))) (goodIn_sub (fun _ h => List.mem_cons_of_mem _ (List.mem_append_right _ h)) (by decide +kernel))
set_option maxRecDepth 20000 in
theorem gL_tar_X3_tar : GoodIn wsL_tar (wsV RL 35 RX3 yX3_tar wsX3_tar) := goodIn_app (goodIn_of _ (by decide +kernel)) ggL_tar_X3_tar
theorem dL_tar_0 : decode cL_tar 0 = .ok (.aload_n 2, 1) := by decide +kernel
theorem dL_tar_1 : decode cL_tar 1 = .ok (.iconst 0, 1) := by decide +kernel
theorem dL_tar_2 : decode cL_tar 2 = .ok (.aload_n 0, 1) := by decide +kernel
theorem dL_tar_3 : decode cL_tar 3 = .ok (.iload_n 1, 1) := by decide +kernel
theorem dL_tar_4 : decode cL_tar 4 = .ok (.invokevirtual 35, 3) := by decide +kernel
theorem dL_tar_7 : decode cL_tar 7 = .ok (.i2l, 1) := by decide +kernel
theorem dL_tar_8 : decode cL_tar 8 = .ok (.lastore, 1) := by decide +kernel
theorem dL_tar_9 : decode cL_tar 9 = .ok (.goto 9, 3) := by decide +kernel
theorem dL_tar_12 : decode cL_tar 12 = .ok (.astore_n 3, 1) := by decide +kernel
theorem dL_tar_13 : decode cL_tar 13 = .ok (.iconst 1, 1) := by decide +kernel
theorem dL_tar_14 : decode cL_tar 14 = .ok (.ireturn, 1) := by decide +kernel
theorem dL_tar_15 : decode cL_tar 15 = .ok (.astore_n 3, 1) := by decide +kernel
theorem dL_tar_16 : decode cL_tar 16 = .ok (.iconst 2, 1) := by decide +kernel
theorem dL_tar_17 : decode cL_tar 17 = .ok (.ireturn, 1) := by decide +kernel
theorem dL_tar_18 : decode cL_tar 18 = .ok (.iconst 0, 1) := by decide +kernel
theorem dL_tar_19 : decode cL_tar 19 = .ok (.ireturn, 1) := by decide +kernel
set_option maxRecDepth 20000 in
theorem ggL_land_X3_land : GoodIn wsL_land wsX3_land := goodIn_ca (goodIn_ca (goodIn_r _ [7, 8, 9, 10, 11, 12, 13, 14, 6, 15, 16, 17, 18, 19, 20, 21, 22, 23, 24, 25, 26, 27, 28, 29, 30, 31, 32, 33, 34, 35, 36, 37, 38, 39, 40, 41, 42, 43, 44, 45, 46, 47, 48, 49, 50, 51, 52, 53, 54, 55, 56, 57, 58, 59] (by decide +kernel) (by decide +kernel)) (goodIn_sub (fun _ h => List.mem_cons_of_mem _ (List.mem_append_left _ (List.mem_append_right _ h))) (by decide +kernel))) (goodIn_sub (fun _ h => List.mem_cons_of_mem _ (List.mem_append_right _ h)) (by decide +kernel))
set_option maxRecDepth 20000 in
theorem gL_land_X3_land : GoodIn wsL_land (wsV RL 39 RX3 yX3_land wsX3_land) := goodIn_app (goodIn_of _ (by decide +kernel)) ggL_land_X3_land
theorem dL_land_0 : decode cL_land 0 = .ok (.aload_n 2, 1) := by decide +kernel
theorem dL_land_1 : decode cL_land 1 = .ok (.iconst 0, 1) := by decide +kernel
theorem dL_land_2 : decode cL_land 2 = .ok (.aload_n 0, 1) := by decide +kernel
theorem dL_land_3 : decode cL_land 3 = .ok (.iload_n 1, 1) := by decide +kernel
theorem dL_land_4 : decode cL_land 4 = .ok (.invokevirtual 39, 3) := by decide +kernel
theorem dL_land_7 : decode cL_land 7 = .ok (.i2l, 1) := by decide +kernel
theorem dL_land_8 : decode cL_land 8 = .ok (.lastore, 1) := by decide +kernel
theorem dL_land_9 : decode cL_land 9 = .ok (.goto 9, 3) := by decide +kernel
theorem dL_land_12 : decode cL_land 12 = .ok (.astore_n 3, 1) := by decide +kernel
theorem dL_land_13 : decode cL_land 13 = .ok (.iconst 1, 1) := by decide +kernel
theorem dL_land_14 : decode cL_land 14 = .ok (.ireturn, 1) := by decide +kernel
theorem dL_land_15 : decode cL_land 15 = .ok (.astore_n 3, 1) := by decide +kernel
theorem dL_land_16 : decode cL_land 16 = .ok (.iconst 2, 1) := by decide +kernel
theorem dL_land_17 : decode cL_land 17 = .ok (.ireturn, 1) := by decide +kernel
theorem dL_land_18 : decode cL_land 18 = .ok (.iconst 0, 1) := by decide +kernel
theorem dL_land_19 : decode cL_land 19 = .ok (.ireturn, 1) := by decide +kernel
set_option maxRecDepth 20000 in
theorem ggL_about_X3_about : GoodIn wsL_about wsX3_about := goodIn_ca (goodIn_r _ [6, 7, 8, 9, 10, 5, 11, 12, 13, 14, 15, 16, 17, 18, 19, 20, 21, 22, 23, 24, 25, 26, 27, 28, 29, 30, 31, 32, 33, 34, 35, 36, 37, 38, 39, 40, 41, 42, 43, 44, 45, 46, 47, 48, 49, 50, 51, 52, 53, 54, 55, 56, 57, 58] (by decide +kernel) (by decide +kernel)) (goodIn_sub (fun _ h => List.mem_cons_of_mem _ (List.mem_append_right _ h)) (by decide +kernel))
set_option maxRecDepth 20000 in
theorem gL_about_X3_about : GoodIn wsL_about (wsV RL 42 RX3 yX3_about wsX3_about) := goodIn_app (goodIn_of _ (by decide +kernel)) ggL_about_X3_about
theorem dL_about_0 : decode cL_about 0 = .ok (.aload_n 3, 1) := by decide +kernel
theorem dL_about_1 : decode cL_about 1 = .ok (.iconst 0, 1) := by decide +kernel
theorem dL_about_2 : decode cL_about 2 = .ok (.aload_n 0, 1) := by decide +kernel
theorem dL_about_3 : decode cL_about 3 = .ok (.iload_n 1, 1) := by decide +kernel
theorem dL_about_4 : decode cL_about 4 = .ok (.iload_n 2, 1) := by decide +kernel
theorem dL_about_5 : decode cL_about 5 = .ok (.invokevirtual 42, 3) := by decide +kernel
theorem dL_about_8 : decode cL_about 8 = .ok (.i2l, 1) := by decide +kernel
theorem dL_about_9 : decode cL_about 9 = .ok (.lastore, 1) := by decide +kernel
theorem dL_about_10 : decode cL_about 10 = .ok (.goto 7, 3) := by decide +kernel
theorem dL_about_13 : decode cL_about 13 = .ok (.astore 4, 2) := by decide +kernel
theorem dL_about_15 : decode cL_about 15 = .ok (.iconst 1, 1) := by decide +kernel
theorem dL_about_16 : decode cL_about 16 = .ok (.ireturn, 1) := by decide +kernel
theorem dL_about_17 : decode cL_about 17 = .ok (.iconst 0, 1) := by decide +kernel
theorem dL_about_18 : decode cL_about 18 = .ok (.ireturn, 1) := by decide +kernel
set_option maxRecDepth 20000 in
theorem ggL_told_X3_told : GoodIn wsL_told wsX3_told := goodIn_ca (goodIn_r _ [6, 7, 8, 9, 10, 5, 11, 12, 13, 14, 15, 16, 17, 18, 19, 20, 21, 22, 23, 24, 25, 26, 27, 28, 29, 30, 31, 32, 33, 34, 35, 36, 37, 38, 39, 40, 41, 42, 43, 44, 45, 46, 47, 48, 49, 50, 51, 52, 53, 54, 55, 56, 57, 58, 59, 60, 61, 62, 63, 64, 65, 66, 67, 68, 69, 70, 71, 72, 73, 74, 75, 76, 77, 78, 79, 80, 81, 82, 83, 84, 85, 86, 87, 88, 89, 90, 91] (by decide +kernel) (by decide +kernel)) (goodIn_sub (fun _ h => List.mem_cons_of_mem _ (List.mem_append_right _ h)) (by decide +kernel))
set_option maxRecDepth 20000 in
theorem gL_told_X3_told : GoodIn wsL_told (wsV RL 45 RX3 yX3_told wsX3_told) := goodIn_app (goodIn_of _ (by decide +kernel)) ggL_told_X3_told
theorem dL_told_0 : decode cL_told 0 = .ok (.aload_n 3, 1) := by decide +kernel
theorem dL_told_1 : decode cL_told 1 = .ok (.iconst 0, 1) := by decide +kernel
theorem dL_told_2 : decode cL_told 2 = .ok (.aload_n 0, 1) := by decide +kernel
theorem dL_told_3 : decode cL_told 3 = .ok (.iload_n 1, 1) := by decide +kernel
theorem dL_told_4 : decode cL_told 4 = .ok (.iload_n 2, 1) := by decide +kernel
theorem dL_told_5 : decode cL_told 5 = .ok (.invokevirtual 45, 3) := by decide +kernel
theorem dL_told_8 : decode cL_told 8 = .ok (.i2l, 1) := by decide +kernel
theorem dL_told_9 : decode cL_told 9 = .ok (.lastore, 1) := by decide +kernel
theorem dL_told_10 : decode cL_told 10 = .ok (.goto 7, 3) := by decide +kernel
theorem dL_told_13 : decode cL_told 13 = .ok (.astore 4, 2) := by decide +kernel
theorem dL_told_15 : decode cL_told 15 = .ok (.iconst 1, 1) := by decide +kernel
theorem dL_told_16 : decode cL_told 16 = .ok (.ireturn, 1) := by decide +kernel
theorem dL_told_17 : decode cL_told 17 = .ok (.iconst 0, 1) := by decide +kernel
theorem dL_told_18 : decode cL_told 18 = .ok (.ireturn, 1) := by decide +kernel
set_option maxRecDepth 20000 in
theorem ggL_reach_X3_reach : GoodIn wsL_reach wsX3_reach := goodIn_ca (goodIn_r _ [6, 7, 8, 9, 5, 10, 11, 12, 13, 14, 15, 16, 17, 18, 19, 20, 21, 22, 23, 24, 25, 26, 27, 28, 29, 30, 31, 32, 33, 34, 35, 36, 37, 38, 39, 40, 41, 42, 43, 44, 45, 46, 47, 48, 49, 50, 51, 52, 53, 54, 55, 56, 57, 58] (by decide +kernel) (by decide +kernel)) (goodIn_sub (fun _ h => List.mem_cons_of_mem _ (List.mem_append_right _ h)) (by decide +kernel))
set_option maxRecDepth 20000 in
theorem gL_reach_X3_reach : GoodIn wsL_reach (wsV RL 48 RX3 yX3_reach wsX3_reach) := goodIn_app (goodIn_of _ (by decide +kernel)) ggL_reach_X3_reach
theorem dL_reach_0 : decode cL_reach 0 = .ok (.aload_n 3, 1) := by decide +kernel
theorem dL_reach_1 : decode cL_reach 1 = .ok (.iconst 0, 1) := by decide +kernel
theorem dL_reach_2 : decode cL_reach 2 = .ok (.aload_n 0, 1) := by decide +kernel
theorem dL_reach_3 : decode cL_reach 3 = .ok (.iload_n 1, 1) := by decide +kernel
theorem dL_reach_4 : decode cL_reach 4 = .ok (.iload_n 2, 1) := by decide +kernel
theorem dL_reach_5 : decode cL_reach 5 = .ok (.invokevirtual 48, 3) := by decide +kernel
theorem dL_reach_8 : decode cL_reach 8 = .ok (.i2l, 1) := by decide +kernel
theorem dL_reach_9 : decode cL_reach 9 = .ok (.lastore, 1) := by decide +kernel
theorem dL_reach_10 : decode cL_reach 10 = .ok (.goto 7, 3) := by decide +kernel
theorem dL_reach_13 : decode cL_reach 13 = .ok (.astore 4, 2) := by decide +kernel
theorem dL_reach_15 : decode cL_reach 15 = .ok (.iconst 1, 1) := by decide +kernel
theorem dL_reach_16 : decode cL_reach 16 = .ok (.ireturn, 1) := by decide +kernel
theorem dL_reach_17 : decode cL_reach 17 = .ok (.iconst 0, 1) := by decide +kernel
theorem dL_reach_18 : decode cL_reach 18 = .ok (.ireturn, 1) := by decide +kernel
set_option maxRecDepth 20000 in
theorem ggL_count_X3_count : GoodIn wsL_count wsX3_count := goodIn_ca (goodIn_r _ [6, 7, 8, 9, 5, 10, 11, 12, 13, 14, 15, 16, 17, 18, 19, 20, 21, 22, 23, 24, 25, 26, 27, 28, 29, 30, 31, 32, 33, 34, 35, 36, 37, 38, 39, 40, 41, 42, 43, 44, 45, 46, 47, 48, 49, 50, 51, 52, 53, 54, 55, 56, 57, 58, 59, 60, 61, 62, 63, 64] (by decide +kernel) (by decide +kernel)) (goodIn_sub (fun _ h => List.mem_cons_of_mem _ (List.mem_append_right _ h)) (by decide +kernel))
set_option maxRecDepth 20000 in
theorem gL_count_X3_count : GoodIn wsL_count (wsV RL 51 RX3 yX3_count wsX3_count) := goodIn_app (goodIn_of _ (by decide +kernel)) ggL_count_X3_count
theorem dL_count_0 : decode cL_count 0 = .ok (.aload_n 2, 1) := by decide +kernel
theorem dL_count_1 : decode cL_count 1 = .ok (.iconst 0, 1) := by decide +kernel
theorem dL_count_2 : decode cL_count 2 = .ok (.aload_n 0, 1) := by decide +kernel
theorem dL_count_3 : decode cL_count 3 = .ok (.iload_n 1, 1) := by decide +kernel
theorem dL_count_4 : decode cL_count 4 = .ok (.invokevirtual 51, 3) := by decide +kernel
theorem dL_count_7 : decode cL_count 7 = .ok (.i2l, 1) := by decide +kernel
theorem dL_count_8 : decode cL_count 8 = .ok (.lastore, 1) := by decide +kernel
theorem dL_count_9 : decode cL_count 9 = .ok (.goto 6, 3) := by decide +kernel
theorem dL_count_12 : decode cL_count 12 = .ok (.astore_n 3, 1) := by decide +kernel
theorem dL_count_13 : decode cL_count 13 = .ok (.iconst 1, 1) := by decide +kernel
theorem dL_count_14 : decode cL_count 14 = .ok (.ireturn, 1) := by decide +kernel
theorem dL_count_15 : decode cL_count 15 = .ok (.iconst 0, 1) := by decide +kernel
theorem dL_count_16 : decode cL_count 16 = .ok (.ireturn, 1) := by decide +kernel
set_option maxRecDepth 20000 in
theorem ggL_pass_X3_pass : GoodIn wsL_pass wsX3_pass := goodIn_ca (goodIn_r _ [6, 7, 8, 9, 5, 10, 11, 12, 13, 14, 15, 16, 17, 18, 19, 20, 21, 22, 23, 24, 25, 26, 27, 28, 29, 30, 31, 32, 33, 34, 35, 36, 37, 38, 39, 40, 41, 42, 43, 44, 45, 46, 47, 48, 49, 50, 51, 52, 53, 54, 55, 56, 57, 58, 59, 60, 61, 62, 63, 64, 65, 66, 67, 68, 69, 70, 71, 72, 73, 74, 75, 76, 77, 78, 79, 80, 81, 82, 83, 84, 85, 86, 87, 88, 89, 90, 91, 92, 93, 94, 95, 96, 97, 98, 99, 100, 101, 102, 103, 104, 105, 106, 107, 108, 109, 110, 111, 112, 113, 114, 115, 116, 117, 118, 119, 120, 121, 122, 123, 124, 125, 126, 127, 128, 129, 130, 131, 132, 133, 134, 135, 136, 137, 138, 139, 140, 141, 142, 143, 144, 145, 146, 147, 148] (by decide +kernel) (by decide +kernel)) (goodIn_sub (fun _ h => List.mem_cons_of_mem _ (List.mem_append_right _ h)) (by decide +kernel))
set_option maxRecDepth 20000 in
theorem gL_pass_X3_pass : GoodIn wsL_pass (wsV RL 54 RX3 yX3_pass wsX3_pass) := goodIn_app (goodIn_of _ (by decide +kernel)) ggL_pass_X3_pass
theorem dL_pass_0 : decode cL_pass 0 = .ok (.aload_n 2, 1) := by decide +kernel
theorem dL_pass_1 : decode cL_pass 1 = .ok (.iconst 0, 1) := by decide +kernel
theorem dL_pass_2 : decode cL_pass 2 = .ok (.aload_n 0, 1) := by decide +kernel
theorem dL_pass_3 : decode cL_pass 3 = .ok (.iload_n 1, 1) := by decide +kernel
theorem dL_pass_4 : decode cL_pass 4 = .ok (.invokevirtual 54, 3) := by decide +kernel
theorem dL_pass_7 : decode cL_pass 7 = .ok (.i2l, 1) := by decide +kernel
theorem dL_pass_8 : decode cL_pass 8 = .ok (.lastore, 1) := by decide +kernel
theorem dL_pass_9 : decode cL_pass 9 = .ok (.goto 6, 3) := by decide +kernel
theorem dL_pass_12 : decode cL_pass 12 = .ok (.astore_n 3, 1) := by decide +kernel
theorem dL_pass_13 : decode cL_pass 13 = .ok (.iconst 1, 1) := by decide +kernel
theorem dL_pass_14 : decode cL_pass 14 = .ok (.ireturn, 1) := by decide +kernel
theorem dL_pass_15 : decode cL_pass 15 = .ok (.iconst 0, 1) := by decide +kernel
theorem dL_pass_16 : decode cL_pass 16 = .ok (.ireturn, 1) := by decide +kernel
set_option maxRecDepth 20000 in
theorem ggL_meets_X3_meets : GoodIn wsL_meets wsX3_meets := goodIn_ca (goodIn_r _ [6, 7, 8, 9, 10, 11, 5, 12, 13, 14, 15, 16, 17, 18, 19, 20, 21, 22, 23, 24, 25, 26, 27, 28, 29, 30, 31, 32, 33, 34, 35, 36, 37, 38, 39, 40, 41, 42, 43, 44, 45, 46, 47, 48, 49, 50, 51, 52, 53, 54, 55, 56, 57, 58, 59, 60, 61, 62, 63, 64, 65, 66, 67, 68, 69, 70, 71, 72, 73, 74, 75, 76, 77, 78, 79, 80, 81, 82, 83, 84, 85, 86, 87, 88, 89, 90, 91, 92, 93, 94, 95, 96, 97, 98, 99, 100, 101, 102, 103, 104, 105, 106, 107, 108, 109, 110, 111, 112, 113, 114, 115, 116, 117, 118, 119, 120, 121, 122, 123, 124, 125, 126, 127, 128, 129, 130, 131, 132, 133, 134, 135, 136, 137, 138, 139, 140, 141, 142, 143, 144, 145, 146, 147, 148, 149, 150, 151, 152, 153, 154, 155, 156, 157, 158, 159, 160, 161, 162, 163, 164, 165, 166, 167, 168, 169, 170, 171, 172, 173, 174, 175, 176, 177] (by decide +kernel) (by decide +kernel)) (goodIn_sub (fun _ h => List.mem_cons_of_mem _ (List.mem_append_right _ h)) (by decide +kernel))
set_option maxRecDepth 20000 in
theorem gL_meets_X3_meets : GoodIn wsL_meets (wsV RL 57 RX3 yX3_meets wsX3_meets) := goodIn_app (goodIn_of _ (by decide +kernel)) ggL_meets_X3_meets
theorem dL_meets_0 : decode cL_meets 0 = .ok (.aload_n 2, 1) := by decide +kernel
theorem dL_meets_1 : decode cL_meets 1 = .ok (.iconst 0, 1) := by decide +kernel
theorem dL_meets_2 : decode cL_meets 2 = .ok (.aload_n 0, 1) := by decide +kernel
theorem dL_meets_3 : decode cL_meets 3 = .ok (.iload_n 1, 1) := by decide +kernel
theorem dL_meets_4 : decode cL_meets 4 = .ok (.invokevirtual 57, 3) := by decide +kernel
theorem dL_meets_7 : decode cL_meets 7 = .ok (.i2l, 1) := by decide +kernel
theorem dL_meets_8 : decode cL_meets 8 = .ok (.lastore, 1) := by decide +kernel
theorem dL_meets_9 : decode cL_meets 9 = .ok (.goto 6, 3) := by decide +kernel
theorem dL_meets_12 : decode cL_meets 12 = .ok (.astore_n 3, 1) := by decide +kernel
theorem dL_meets_13 : decode cL_meets 13 = .ok (.iconst 1, 1) := by decide +kernel
theorem dL_meets_14 : decode cL_meets 14 = .ok (.ireturn, 1) := by decide +kernel
theorem dL_meets_15 : decode cL_meets 15 = .ok (.iconst 0, 1) := by decide +kernel
theorem dL_meets_16 : decode cL_meets 16 = .ok (.ireturn, 1) := by decide +kernel
set_option maxRecDepth 20000 in
theorem ggL_sinks_X3_sinks : GoodIn wsL_sinks wsX3_sinks := goodIn_ca (goodIn_r _ [6, 7, 8, 9, 10, 11, 12, 5, 13, 14, 15, 16, 17, 18, 19, 20, 21, 22, 23, 24, 25, 26, 27, 28, 29, 30, 31, 32, 33, 34, 35, 36, 37, 38, 39, 40, 41, 42, 43, 44, 45, 46, 47, 48, 49, 50, 51, 52, 53, 54, 55, 56, 57, 58, 59, 60, 61, 62, 63, 64, 65, 66, 67, 68, 69, 70, 71, 72, 73, 74, 75, 76, 77, 78, 79, 80, 81, 82, 83, 84, 85, 86, 87, 88, 89, 90, 91, 92, 93, 94, 95, 96, 97, 98, 99, 100, 101, 102, 103, 104, 105, 106, 107, 108, 109, 110, 111, 112, 113, 114, 115, 116, 117, 118, 119, 120, 121, 122, 123, 124, 125, 126, 127, 128, 129, 130, 131, 132, 133, 134, 135, 136, 137, 138, 139, 140, 141, 142, 143, 144, 145, 146, 147, 148, 149, 150, 151, 152, 153, 154, 155, 156, 157, 158, 159, 160, 161, 162, 163, 164, 165, 166, 167, 168, 169, 170, 171, 172, 173, 174, 175, 176, 177] (by decide +kernel) (by decide +kernel)) (goodIn_sub (fun _ h => List.mem_cons_of_mem _ (List.mem_append_right _ h)) (by decide +kernel))
set_option maxRecDepth 20000 in
theorem gL_sinks_X3_sinks : GoodIn wsL_sinks (wsV RL 60 RX3 yX3_sinks wsX3_sinks) := goodIn_app (goodIn_of _ (by decide +kernel)) ggL_sinks_X3_sinks
theorem dL_sinks_0 : decode cL_sinks 0 = .ok (.aload_n 2, 1) := by decide +kernel
theorem dL_sinks_1 : decode cL_sinks 1 = .ok (.iconst 0, 1) := by decide +kernel
theorem dL_sinks_2 : decode cL_sinks 2 = .ok (.aload_n 0, 1) := by decide +kernel
theorem dL_sinks_3 : decode cL_sinks 3 = .ok (.iload_n 1, 1) := by decide +kernel
theorem dL_sinks_4 : decode cL_sinks 4 = .ok (.invokevirtual 60, 3) := by decide +kernel
theorem dL_sinks_7 : decode cL_sinks 7 = .ok (.i2l, 1) := by decide +kernel
theorem dL_sinks_8 : decode cL_sinks 8 = .ok (.lastore, 1) := by decide +kernel
theorem dL_sinks_9 : decode cL_sinks 9 = .ok (.goto 6, 3) := by decide +kernel
theorem dL_sinks_12 : decode cL_sinks 12 = .ok (.astore_n 3, 1) := by decide +kernel
theorem dL_sinks_13 : decode cL_sinks 13 = .ok (.iconst 1, 1) := by decide +kernel
theorem dL_sinks_14 : decode cL_sinks 14 = .ok (.ireturn, 1) := by decide +kernel
theorem dL_sinks_15 : decode cL_sinks 15 = .ok (.iconst 0, 1) := by decide +kernel
theorem dL_sinks_16 : decode cL_sinks 16 = .ok (.ireturn, 1) := by decide +kernel
set_option maxRecDepth 20000 in
theorem ggL_foresee_X3_foresee : GoodIn wsL_foresee wsX3_foresee := goodIn_ca (goodIn_ca (goodIn_r _ [7, 8, 9, 10, 11, 6, 12, 13, 14, 15, 16, 17, 18, 19, 20, 21, 22, 23, 24, 25, 26, 27, 28, 29, 30, 31, 32, 33, 34, 35, 36, 37, 38, 39, 40, 41, 42, 43, 44, 45, 46, 47, 48, 49, 50, 51, 52, 53, 54, 55, 56, 57, 58, 59, 60, 61, 62, 63, 64, 65, 66, 67, 68, 69, 70, 71, 72, 73, 74, 75, 76, 77, 78, 79, 80, 81, 82, 83, 84, 85, 86, 87, 88, 89, 90, 91, 92, 93, 94, 95, 96, 97, 98, 99, 100, 101, 102, 103, 104, 105, 106, 107, 108, 109, 110, 111, 112, 113, 114, 115, 116, 117, 118, 119, 120, 121, 122, 123, 124, 125, 126, 127, 128, 129, 130, 131, 132, 133, 134, 135, 136, 137, 138, 139, 140, 141, 142, 143, 144, 145, 146, 147, 148, 149, 150, 151, 152, 153, 154, 155, 156, 157, 158, 159, 160, 161, 162, 163, 164, 165, 166, 167, 168, 169, 170, 171, 172, 173, 174, 175, 176, 177, 178, 179, 180, 181, 182, 183, 184, 185, 186, 187, 188, 189, 190, 191, 192, 193, 194, 195, 196] (by decide +kernel) (by decide +kernel)) (goodIn_sub (fun _ h => List.mem_cons_of_mem _ (List.mem_append_left _ (List.mem_append_right _ h))) (by decide +kernel))) (goodIn_sub (fun _ h => List.mem_cons_of_mem _ (List.mem_append_right _ h)) (by decide +kernel))
set_option maxRecDepth 20000 in
theorem gL_foresee_X3_foresee : GoodIn wsL_foresee (wsV RL 63 RX3 yX3_foresee wsX3_foresee) := goodIn_app (goodIn_of _ (by decide +kernel)) ggL_foresee_X3_foresee
theorem dL_foresee_0 : decode cL_foresee 0 = .ok (.aload_n 3, 1) := by decide +kernel
theorem dL_foresee_1 : decode cL_foresee 1 = .ok (.iconst 0, 1) := by decide +kernel
theorem dL_foresee_2 : decode cL_foresee 2 = .ok (.aload_n 0, 1) := by decide +kernel
theorem dL_foresee_3 : decode cL_foresee 3 = .ok (.iload_n 1, 1) := by decide +kernel
theorem dL_foresee_4 : decode cL_foresee 4 = .ok (.iload_n 2, 1) := by decide +kernel
theorem dL_foresee_5 : decode cL_foresee 5 = .ok (.invokevirtual 63, 3) := by decide +kernel
theorem dL_foresee_8 : decode cL_foresee 8 = .ok (.i2l, 1) := by decide +kernel
theorem dL_foresee_9 : decode cL_foresee 9 = .ok (.lastore, 1) := by decide +kernel
theorem dL_foresee_10 : decode cL_foresee 10 = .ok (.goto 11, 3) := by decide +kernel
theorem dL_foresee_13 : decode cL_foresee 13 = .ok (.astore 4, 2) := by decide +kernel
theorem dL_foresee_15 : decode cL_foresee 15 = .ok (.iconst 1, 1) := by decide +kernel
theorem dL_foresee_16 : decode cL_foresee 16 = .ok (.ireturn, 1) := by decide +kernel
theorem dL_foresee_17 : decode cL_foresee 17 = .ok (.astore 4, 2) := by decide +kernel
theorem dL_foresee_19 : decode cL_foresee 19 = .ok (.iconst 2, 1) := by decide +kernel
theorem dL_foresee_20 : decode cL_foresee 20 = .ok (.ireturn, 1) := by decide +kernel
theorem dL_foresee_21 : decode cL_foresee 21 = .ok (.iconst 0, 1) := by decide +kernel
theorem dL_foresee_22 : decode cL_foresee 22 = .ok (.ireturn, 1) := by decide +kernel
set_option maxRecDepth 20000 in
theorem ggL_advise_X3_advise : GoodIn wsL_advise wsX3_advise := goodIn_ca (goodIn_ca (goodIn_r _ [7, 8, 9, 10, 11, 6, 12, 13, 14, 15, 16, 17, 18, 19, 20, 21, 22, 23, 24, 25, 26, 27, 28, 29, 30, 31, 32, 33, 34, 35, 36, 37, 38, 39, 40, 41, 42, 43, 44, 45, 46, 47, 48, 49, 50, 51, 52, 53, 54, 55, 56, 57, 58, 59, 60, 61, 62, 63, 64, 65, 66, 67, 68, 69, 70, 71, 72, 73, 74, 75, 76, 77, 78, 79, 80, 81, 82, 83, 84, 85, 86, 87, 88, 89, 90, 91, 92, 93, 94, 95, 96, 97, 98, 99, 100, 101, 102, 103, 104, 105, 106, 107, 108, 109, 110, 111, 112, 113, 114, 115, 116, 117, 118, 119, 120, 121, 122, 123, 124, 125, 126, 127, 128, 129, 130, 131, 132, 133, 134, 135, 136, 137, 138, 139, 140, 141, 142, 143, 144, 145, 146, 147, 148, 149, 150, 151, 152, 153, 154, 155, 156, 157, 158, 159, 160, 161, 162, 163, 164, 165, 166, 167, 168, 169, 170, 171, 172, 173, 174, 175, 176, 177, 178, 179, 180, 181, 182, 183, 184, 185, 186, 187, 188, 189, 190, 191] (by decide +kernel) (by decide +kernel)) (goodIn_sub (fun _ h => List.mem_cons_of_mem _ (List.mem_append_left _ (List.mem_append_right _ h))) (by decide +kernel))) (goodIn_sub (fun _ h => List.mem_cons_of_mem _ (List.mem_append_right _ h)) (by decide +kernel))
set_option maxRecDepth 20000 in
theorem gL_advise_X3_advise : GoodIn wsL_advise (wsV RL 66 RX3 yX3_advise wsX3_advise) := goodIn_app (goodIn_of _ (by decide +kernel)) ggL_advise_X3_advise
theorem dL_advise_0 : decode cL_advise 0 = .ok (.aload_n 3, 1) := by decide +kernel
theorem dL_advise_1 : decode cL_advise 1 = .ok (.iconst 0, 1) := by decide +kernel
theorem dL_advise_2 : decode cL_advise 2 = .ok (.aload_n 0, 1) := by decide +kernel
theorem dL_advise_3 : decode cL_advise 3 = .ok (.iload_n 1, 1) := by decide +kernel
theorem dL_advise_4 : decode cL_advise 4 = .ok (.iload_n 2, 1) := by decide +kernel
theorem dL_advise_5 : decode cL_advise 5 = .ok (.invokevirtual 66, 3) := by decide +kernel
theorem dL_advise_8 : decode cL_advise 8 = .ok (.i2l, 1) := by decide +kernel
