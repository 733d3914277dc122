theorem dX3_checkArgument_1 : decode cX3_checkArgument 1 = .ok (.iload_n 1, 1) := by decide +kernel
theorem dX3_checkArgument_2 : decode cX3_checkArgument 2 = .ok (.if_icmp .lt 8, 3) := by decide +kernel
theorem dX3_checkArgument_5 : decode cX3_checkArgument 5 = .ok (.iload_n 0, 1) := by decide +kernel
theorem dX3_checkArgument_6 : decode cX3_checkArgument 6 = .ok (.iload_n 2, 1) := by decide +kernel
theorem dX3_checkArgument_7 : decode cX3_checkArgument 7 = .ok (.if_icmp .le 11, 3) := by decide +kernel
theorem dX3_checkArgument_10 : decode cX3_checkArgument 10 = .ok (.new 55, 3) := by decide +kernel
theorem dX3_checkArgument_13 : decode cX3_checkArgument 13 = .ok (.dup, 1) := by decide +kernel
theorem dX3_checkArgument_14 : decode cX3_checkArgument 14 = .ok (.invokespecial 57, 3) := by decide +kernel
theorem dX3_checkArgument_17 : decode cX3_checkArgument 17 = .ok (.athrow, 1) := by decide +kernel
theorem dX3_checkArgument_18 : decode cX3_checkArgument 18 = .ok (.return_, 1) := by decide +kernel
theorem dX3_checkState_0 : decode cX3_checkState 0 = .ok (.iload_n 0, 1) := by decide +kernel
theorem dX3_checkState_1 : decode cX3_checkState 1 = .ok (.ifCond .ne 11, 3) := by decide +kernel
theorem dX3_checkState_4 : decode cX3_checkState 4 = .ok (.new 154, 3) := by decide +kernel
theorem dX3_checkState_7 : decode cX3_checkState 7 = .ok (.dup, 1) := by decide +kernel
theorem dX3_checkState_8 : decode cX3_checkState 8 = .ok (.invokespecial 156, 3) := by decide +kernel
theorem dX3_checkState_11 : decode cX3_checkState 11 = .ok (.athrow, 1) := by decide +kernel
theorem dX3_checkState_12 : decode cX3_checkState 12 = .ok (.return_, 1) := by decide +kernel
set_option maxRecDepth 20000 in
theorem ggX3_letHoursPass_J9_floorMod_7cf53 : GoodIn wsX3_letHoursPass wsJ9_floorMod_7cf53 := goodIn_r _ [7] (by decide +kernel) (by decide +kernel)
set_option maxRecDepth 20000 in
theorem gX3_letHoursPass_J9_floorMod_7cf53 : GoodIn wsX3_letHoursPass (va_wsS RX3 160 yJ9_floorMod_7cf53 wsJ9_floorMod_7cf53) := goodIn_app (goodIn_of _ (by decide +kernel)) ggX3_letHoursPass_J9_floorMod_7cf53
set_option maxRecDepth 20000 in
theorem ggX3_letHoursPass_X2_liveHour : GoodIn wsX3_letHoursPass wsX2_liveHour := goodIn_r _ [12, 13, 14, 15, 16, 17, 18, 19, 20, 21, 22, 11, 23, 24, 25, 26, 27, 28, 29, 30, 31, 32, 33, 34, 35, 36, 37, 38, 39, 40, 41, 42, 43, 44, 45, 46, 47, 48, 49, 50, 51, 52, 53, 54, 55, 56, 57, 58, 59, 60, 61, 62, 63, 64, 65, 66, 67, 68, 69, 70, 71, 72, 73, 74, 75, 76, 77, 78, 79, 80, 81, 82, 83, 84, 85, 86, 87, 88, 89, 90, 91, 92, 93, 94, 95, 96, 97, 98, 99, 100, 5, 6, 7, 101, 102, 103, 104, 105, 106, 107, 108, 109, 110, 111, 112, 113, 114, 115, 120, 121, 122, 123, 124, 125, 126, 127, 128, 129, 130, 131, 132] (by decide +kernel) (by decide +kernel)
set_option maxRecDepth 20000 in
theorem gX3_letHoursPass_X2_liveHour : GoodIn wsX3_letHoursPass (wsV RX3 165 RX2 yX2_liveHour wsX2_liveHour) := goodIn_app (goodIn_of _ (by decide +kernel)) ggX3_letHoursPass_X2_liveHour
theorem dX3_letHoursPass_0 : decode cX3_letHoursPass 0 = .ok (.iconst 0, 1) := by decide +kernel
theorem dX3_letHoursPass_1 : decode cX3_letHoursPass 1 = .ok (.istore_n 3, 1) := by decide +kernel
theorem dX3_letHoursPass_2 : decode cX3_letHoursPass 2 = .ok (.iconst 0, 1) := by decide +kernel
theorem dX3_letHoursPass_3 : decode cX3_letHoursPass 3 = .ok (.istore 4, 2) := by decide +kernel
theorem dX3_letHoursPass_5 : decode cX3_letHoursPass 5 = .ok (.iload 4, 2) := by decide +kernel
theorem dX3_letHoursPass_7 : decode cX3_letHoursPass 7 = .ok (.iload_n 2, 1) := by decide +kernel
theorem dX3_letHoursPass_8 : decode cX3_letHoursPass 8 = .ok (.if_icmp .ge 41, 3) := by decide +kernel
theorem dX3_letHoursPass_11 : decode cX3_letHoursPass 11 = .ok (.aload_n 1, 1) := by decide +kernel
theorem dX3_letHoursPass_12 : decode cX3_letHoursPass 12 = .ok (.getfield 157, 3) := by decide +kernel
theorem dX3_letHoursPass_15 : decode cX3_letHoursPass 15 = .ok (.bipush 8, 2) := by decide +kernel
theorem dX3_letHoursPass_17 : decode cX3_letHoursPass 17 = .ok (.invokestatic 160, 3) := by decide +kernel
theorem dX3_letHoursPass_20 : decode cX3_letHoursPass 20 = .ok (.istore 5, 2) := by decide +kernel
theorem dX3_letHoursPass_22 : decode cX3_letHoursPass 22 = .ok (.iload_n 3, 1) := by decide +kernel
theorem dX3_letHoursPass_23 : decode cX3_letHoursPass 23 = .ok (.aload_n 1, 1) := by decide +kernel
theorem dX3_letHoursPass_24 : decode cX3_letHoursPass 24 = .ok (.aload_n 0, 1) := by decide +kernel
theorem dX3_letHoursPass_25 : decode cX3_letHoursPass 25 = .ok (.getfield 9, 3) := by decide +kernel
theorem dX3_letHoursPass_28 : decode cX3_letHoursPass 28 = .ok (.iload 5, 2) := by decide +kernel
theorem dX3_letHoursPass_30 : decode cX3_letHoursPass 30 = .ok (.iaload, 1) := by decide +kernel
theorem dX3_letHoursPass_31 : decode cX3_letHoursPass 31 = .ok (.aload_n 0, 1) := by decide +kernel
theorem dX3_letHoursPass_32 : decode cX3_letHoursPass 32 = .ok (.getfield 13, 3) := by decide +kernel
theorem dX3_letHoursPass_35 : decode cX3_letHoursPass 35 = .ok (.iload 5, 2) := by decide +kernel
theorem dX3_letHoursPass_37 : decode cX3_letHoursPass 37 = .ok (.iaload, 1) := by decide +kernel
theorem dX3_letHoursPass_38 : decode cX3_letHoursPass 38 = .ok (.invokevirtual 165, 3) := by decide +kernel
theorem dX3_letHoursPass_41 : decode cX3_letHoursPass 41 = .ok (.iadd, 1) := by decide +kernel
theorem dX3_letHoursPass_42 : decode cX3_letHoursPass 42 = .ok (.istore_n 3, 1) := by decide +kernel
theorem dX3_letHoursPass_43 : decode cX3_letHoursPass 43 = .ok (.iinc 4 1, 3) := by decide +kernel
theorem dX3_letHoursPass_46 : decode cX3_letHoursPass 46 = .ok (.goto (-41), 3) := by decide +kernel
theorem dX3_letHoursPass_49 : decode cX3_letHoursPass 49 = .ok (.iload_n 3, 1) := by decide +kernel
theorem dX3_letHoursPass_50 : decode cX3_letHoursPass 50 = .ok (.ireturn, 1) := by decide +kernel
set_option maxRecDepth 20000 in
theorem ggX3_caughtWithGoal_X2_becomeLike : GoodIn wsX3_caughtWithGoal wsX2_becomeLike := goodIn_r _ [11, 12, 13, 14, 15, 16, 17, 18, 19, 20, 21, 22, 23, 24, 25, 26, 27, 28, 29, 30, 31, 32, 33, 34, 35, 36, 37, 38, 39, 40, 41, 42, 43, 44, 45, 46, 47, 48, 161, 162, 163, 164, 165, 166, 167, 168, 169, 170, 151, 152, 153, 154, 155, 156, 157, 158, 159, 160, 148, 149, 150] (by decide +kernel) (by decide +kernel)
set_option maxRecDepth 20000 in
theorem gX3_caughtWithGoal_X2_becomeLike : GoodIn wsX3_caughtWithGoal (wsV RX3 110 RX2 yX2_becomeLike wsX2_becomeLike) := goodIn_app (goodIn_of _ (by decide +kernel)) ggX3_caughtWithGoal_X2_becomeLike
set_option maxRecDepth 20000 in
theorem ggX3_caughtWithGoal_X2_netOf : GoodIn wsX3_caughtWithGoal wsX2_netOf := goodIn_r _ [52, 13, 161, 162, 163, 164, 165, 166, 167, 168, 169, 170] (by decide +kernel) (by decide +kernel)
set_option maxRecDepth 20000 in
theorem gX3_caughtWithGoal_X2_netOf : GoodIn wsX3_caughtWithGoal (wsV RX3 114 RX2 yX2_netOf wsX2_netOf) := goodIn_app (goodIn_of _ (by decide +kernel)) ggX3_caughtWithGoal_X2_netOf
set_option maxRecDepth 20000 in
theorem ggX3_caughtWithGoal_X2_coracleOf : GoodIn wsX3_caughtWithGoal wsX2_coracleOf := goodIn_r _ [56, 12, 161, 162, 163, 164, 165, 166, 167, 168, 169, 170] (by decide +kernel) (by decide +kernel)
set_option maxRecDepth 20000 in
theorem gX3_caughtWithGoal_X2_coracleOf : GoodIn wsX3_caughtWithGoal (wsV RX3 58 RX2 yX2_coracleOf wsX2_coracleOf) := goodIn_app (goodIn_of _ (by decide +kernel)) ggX3_caughtWithGoal_X2_coracleOf
set_option maxRecDepth 20000 in
theorem ggX3_caughtWithGoal_X3_letHoursPass : GoodIn wsX3_caughtWithGoal wsX3_letHoursPass := goodIn_r _ [61, 62, 63, 64, 65, 66, 67, 68, 69, 70, 71, 10, 72, 23, 20, 14, 73, 74, 75, 76, 77, 78, 79, 80, 12, 81, 82, 83, 84, 29, 85, 34, 86, 35, 33, 87, 88, 89, 90, 50, 51, 52, 13, 91, 92, 93, 94, 95, 96, 97, 98, 99, 100, 101, 54, 55, 56, 102, 103, 104, 105, 106, 107, 108, 109, 110, 111, 112, 113, 114, 39, 115, 116, 117, 118, 31, 38, 119, 120, 121, 122, 123, 124, 125, 126, 127, 128, 129, 130, 131, 132, 133, 134, 36, 37, 135, 136, 137, 138, 32, 139, 140, 141, 142, 143, 25, 161, 162, 163, 164, 165, 166, 167, 168, 169, 170, 144, 145, 146, 147, 151, 152, 153, 154, 155, 156, 157, 158, 159, 160, 148, 149, 150] (by decide +kernel) (by decide +kernel)
set_option maxRecDepth 20000 in
theorem gX3_caughtWithGoal_X3_letHoursPass : GoodIn wsX3_caughtWithGoal (wsV RX3 106 RX3 yX3_letHoursPass wsX3_letHoursPass) := goodIn_app (goodIn_of _ (by decide +kernel)) ggX3_caughtWithGoal_X3_letHoursPass
theorem dX3_caughtWithGoal_0 : decode cX3_caughtWithGoal 0 = .ok (.aload_n 0, 1) := by decide +kernel
theorem dX3_caughtWithGoal_1 : decode cX3_caughtWithGoal 1 = .ok (.getfield 23, 3) := by decide +kernel
theorem dX3_caughtWithGoal_4 : decode cX3_caughtWithGoal 4 = .ok (.aload_n 0, 1) := by decide +kernel
theorem dX3_caughtWithGoal_5 : decode cX3_caughtWithGoal 5 = .ok (.getfield 19, 3) := by decide +kernel
theorem dX3_caughtWithGoal_8 : decode cX3_caughtWithGoal 8 = .ok (.invokevirtual 110, 3) := by decide +kernel
theorem dX3_caughtWithGoal_11 : decode cX3_caughtWithGoal 11 = .ok (.aload_n 0, 1) := by decide +kernel
theorem dX3_caughtWithGoal_12 : decode cX3_caughtWithGoal 12 = .ok (.getfield 23, 3) := by decide +kernel
theorem dX3_caughtWithGoal_15 : decode cX3_caughtWithGoal 15 = .ok (.iload_n 1, 1) := by decide +kernel
theorem dX3_caughtWithGoal_16 : decode cX3_caughtWithGoal 16 = .ok (.invokevirtual 114, 3) := by decide +kernel
theorem dX3_caughtWithGoal_19 : decode cX3_caughtWithGoal 19 = .ok (.astore 4, 2) := by decide +kernel
theorem dX3_caughtWithGoal_21 : decode cX3_caughtWithGoal 21 = .ok (.aload_n 0, 1) := by decide +kernel
theorem dX3_caughtWithGoal_22 : decode cX3_caughtWithGoal 22 = .ok (.getfield 23, 3) := by decide +kernel
theorem dX3_caughtWithGoal_25 : decode cX3_caughtWithGoal 25 = .ok (.aload 4, 2) := by decide +kernel
theorem dX3_caughtWithGoal_27 : decode cX3_caughtWithGoal 27 = .ok (.getfield 168, 3) := by decide +kernel
theorem dX3_caughtWithGoal_30 : decode cX3_caughtWithGoal 30 = .ok (.invokevirtual 58, 3) := by decide +kernel
theorem dX3_caughtWithGoal_33 : decode cX3_caughtWithGoal 33 = .ok (.iload_n 2, 1) := by decide +kernel
theorem dX3_caughtWithGoal_34 : decode cX3_caughtWithGoal 34 = .ok (.putfield 71, 3) := by decide +kernel
theorem dX3_caughtWithGoal_37 : decode cX3_caughtWithGoal 37 = .ok (.aload_n 0, 1) := by decide +kernel
theorem dX3_caughtWithGoal_38 : decode cX3_caughtWithGoal 38 = .ok (.getfield 23, 3) := by decide +kernel
theorem dX3_caughtWithGoal_41 : decode cX3_caughtWithGoal 41 = .ok (.aload 4, 2) := by decide +kernel
theorem dX3_caughtWithGoal_43 : decode cX3_caughtWithGoal 43 = .ok (.getfield 173, 3) := by decide +kernel
theorem dX3_caughtWithGoal_46 : decode cX3_caughtWithGoal 46 = .ok (.invokevirtual 58, 3) := by decide +kernel
theorem dX3_caughtWithGoal_49 : decode cX3_caughtWithGoal 49 = .ok (.iload_n 2, 1) := by decide +kernel
theorem dX3_caughtWithGoal_50 : decode cX3_caughtWithGoal 50 = .ok (.putfield 71, 3) := by decide +kernel
theorem dX3_caughtWithGoal_53 : decode cX3_caughtWithGoal 53 = .ok (.aload_n 0, 1) := by decide +kernel
theorem dX3_caughtWithGoal_54 : decode cX3_caughtWithGoal 54 = .ok (.aload_n 0, 1) := by decide +kernel
theorem dX3_caughtWithGoal_55 : decode cX3_caughtWithGoal 55 = .ok (.getfield 23, 3) := by decide +kernel
theorem dX3_caughtWithGoal_58 : decode cX3_caughtWithGoal 58 = .ok (.iload_n 3, 1) := by decide +kernel
theorem dX3_caughtWithGoal_59 : decode cX3_caughtWithGoal 59 = .ok (.invokevirtual 106, 3) := by decide +kernel
theorem dX3_caughtWithGoal_62 : decode cX3_caughtWithGoal 62 = .ok (.pop, 1) := by decide +kernel
theorem dX3_caughtWithGoal_63 : decode cX3_caughtWithGoal 63 = .ok (.aload 4, 2) := by decide +kernel
theorem dX3_caughtWithGoal_65 : decode cX3_caughtWithGoal 65 = .ok (.getfield 176, 3) := by decide +kernel
theorem dX3_caughtWithGoal_68 : decode cX3_caughtWithGoal 68 = .ok (.ireturn, 1) := by decide +kernel
theorem dX3_digestWith_0 : decode cX3_digestWith 0 = .ok (.lload_n 0, 1) := by decide +kernel
theorem dX3_digestWith_1 : decode cX3_digestWith 1 = .ok (.ldc2_w 179, 3) := by decide +kernel
theorem dX3_digestWith_4 : decode cX3_digestWith 4 = .ok (.lmul, 1) := by decide +kernel
theorem dX3_digestWith_5 : decode cX3_digestWith 5 = .ok (.iload_n 2, 1) := by decide +kernel
theorem dX3_digestWith_6 : decode cX3_digestWith 6 = .ok (.i2l, 1) := by decide +kernel
theorem dX3_digestWith_7 : decode cX3_digestWith 7 = .ok (.ladd, 1) := by decide +kernel
theorem dX3_digestWith_8 : decode cX3_digestWith 8 = .ok (.lreturn, 1) := by decide +kernel
set_option maxRecDepth 20000 in
theorem ggX3_digestOfCounts_X2_tellCount : GoodIn wsX3_digestOfCounts wsX2_tellCount := goodIn_r _ [6, 7, 8, 9, 10, 11, 12, 13, 14, 15, 16, 5, 17, 18, 19, 20, 21, 22, 23, 24, 25, 26, 27, 28, 29, 39, 40, 41, 42, 43, 44, 45, 46, 47, 48, 49, 50, 51, 52, 53, 54, 55, 56, 57, 58] (by decide +kernel) (by decide +kernel)
set_option maxRecDepth 20000 in
theorem gX3_digestOfCounts_X2_tellCount : GoodIn wsX3_digestOfCounts (wsV RX3 103 RX2 yX2_tellCount wsX2_tellCount) := goodIn_app (goodIn_of _ (by decide +kernel)) ggX3_digestOfCounts_X2_tellCount
set_option maxRecDepth 20000 in
theorem ggX3_digestOfCounts_X3_digestWith : GoodIn wsX3_digestOfCounts wsX3_digestWith := goodIn_r _ [33, 34] (by decide +kernel) (by decide +kernel)
set_option maxRecDepth 20000 in
theorem gX3_digestOfCounts_X3_digestWith : GoodIn wsX3_digestOfCounts (va_wsS RX3 181 yX3_digestWith wsX3_digestWith) := goodIn_app (goodIn_of _ (by decide +kernel)) ggX3_digestOfCounts_X3_digestWith
theorem dX3_digestOfCounts_0 : decode cX3_digestOfCounts 0 = .ok (.lload_n 1, 1) := by decide +kernel
theorem dX3_digestOfCounts_1 : decode cX3_digestOfCounts 1 = .ok (.lstore_n 3, 1) := by decide +kernel
theorem dX3_digestOfCounts_2 : decode cX3_digestOfCounts 2 = .ok (.iconst 0, 1) := by decide +kernel
theorem dX3_digestOfCounts_3 : decode cX3_digestOfCounts 3 = .ok (.istore 5, 2) := by decide +kernel
theorem dX3_digestOfCounts_5 : decode cX3_digestOfCounts 5 = .ok (.iload 5, 2) := by decide +kernel
theorem dX3_digestOfCounts_7 : decode cX3_digestOfCounts 7 = .ok (.bipush 13, 2) := by decide +kernel
theorem dX3_digestOfCounts_9 : decode cX3_digestOfCounts 9 = .ok (.if_icmp .ge 23, 3) := by decide +kernel
theorem dX3_digestOfCounts_12 : decode cX3_digestOfCounts 12 = .ok (.lload_n 3, 1) := by decide +kernel
theorem dX3_digestOfCounts_13 : decode cX3_digestOfCounts 13 = .ok (.aload_n 0, 1) := by decide +kernel
theorem dX3_digestOfCounts_14 : decode cX3_digestOfCounts 14 = .ok (.getfield 19, 3) := by decide +kernel
theorem dX3_digestOfCounts_17 : decode cX3_digestOfCounts 17 = .ok (.iload 5, 2) := by decide +kernel
theorem dX3_digestOfCounts_19 : decode cX3_digestOfCounts 19 = .ok (.invokevirtual 103, 3) := by decide +kernel
theorem dX3_digestOfCounts_22 : decode cX3_digestOfCounts 22 = .ok (.invokestatic 181, 3) := by decide +kernel
theorem dX3_digestOfCounts_25 : decode cX3_digestOfCounts 25 = .ok (.lstore_n 3, 1) := by decide +kernel
theorem dX3_digestOfCounts_26 : decode cX3_digestOfCounts 26 = .ok (.iinc 5 1, 3) := by decide +kernel
theorem dX3_digestOfCounts_29 : decode cX3_digestOfCounts 29 = .ok (.goto (-24), 3) := by decide +kernel
theorem dX3_digestOfCounts_32 : decode cX3_digestOfCounts 32 = .ok (.lload_n 3, 1) := by decide +kernel
theorem dX3_digestOfCounts_33 : decode cX3_digestOfCounts 33 = .ok (.lreturn, 1) := by decide +kernel
set_option maxRecDepth 20000 in
theorem ggX3_digestOfTables_X3_digestWith : GoodIn wsX3_digestOfTables wsX3_digestWith := goodIn_r _ [6, 7] (by decide +kernel) (by decide +kernel)
set_option maxRecDepth 20000 in
theorem gX3_digestOfTables_X3_digestWith : GoodIn wsX3_digestOfTables (va_wsS RX3 181 yX3_digestWith wsX3_digestWith) := goodIn_app (goodIn_of _ (by decide +kernel)) ggX3_digestOfTables_X3_digestWith
theorem dX3_digestOfTables_0 : decode cX3_digestOfTables 0 = .ok (.lload_n 1, 1) := by decide +kernel
theorem dX3_digestOfTables_1 : decode cX3_digestOfTables 1 = .ok (.lstore_n 3, 1) := by decide +kernel
theorem dX3_digestOfTables_2 : decode cX3_digestOfTables 2 = .ok (.iconst 0, 1) := by decide +kernel
theorem dX3_digestOfTables_3 : decode cX3_digestOfTables 3 = .ok (.istore 5, 2) := by decide +kernel
theorem dX3_digestOfTables_5 : decode cX3_digestOfTables 5 = .ok (.iload 5, 2) := by decide +kernel
theorem dX3_digestOfTables_7 : decode cX3_digestOfTables 7 = .ok (.bipush 8, 2) := by decide +kernel
theorem dX3_digestOfTables_9 : decode cX3_digestOfTables 9 = .ok (.if_icmp .ge 33, 3) := by decide +kernel
theorem dX3_digestOfTables_12 : decode cX3_digestOfTables 12 = .ok (.lload_n 3, 1) := by decide +kernel
theorem dX3_digestOfTables_13 : decode cX3_digestOfTables 13 = .ok (.aload_n 0, 1) := by decide +kernel
theorem dX3_digestOfTables_14 : decode cX3_digestOfTables 14 = .ok (.getfield 9, 3) := by decide +kernel
theorem dX3_digestOfTables_17 : decode cX3_digestOfTables 17 = .ok (.iload 5, 2) := by decide +kernel
theorem dX3_digestOfTables_19 : decode cX3_digestOfTables 19 = .ok (.iaload, 1) := by decide +kernel
theorem dX3_digestOfTables_20 : decode cX3_digestOfTables 20 = .ok (.invokestatic 181, 3) := by decide +kernel
theorem dX3_digestOfTables_23 : decode cX3_digestOfTables 23 = .ok (.lstore_n 3, 1) := by decide +kernel
theorem dX3_digestOfTables_24 : decode cX3_digestOfTables 24 = .ok (.lload_n 3, 1) := by decide +kernel
theorem dX3_digestOfTables_25 : decode cX3_digestOfTables 25 = .ok (.aload_n 0, 1) := by decide +kernel
theorem dX3_digestOfTables_26 : decode cX3_digestOfTables 26 = .ok (.getfield 13, 3) := by decide +kernel
theorem dX3_digestOfTables_29 : decode cX3_digestOfTables 29 = .ok (.iload 5, 2) := by decide +kernel
theorem dX3_digestOfTables_31 : decode cX3_digestOfTables 31 = .ok (.iaload, 1) := by decide +kernel
theorem dX3_digestOfTables_32 : decode cX3_digestOfTables 32 = .ok (.invokestatic 181, 3) := by decide +kernel
theorem dX3_digestOfTables_35 : decode cX3_digestOfTables 35 = .ok (.lstore_n 3, 1) := by decide +kernel
theorem dX3_digestOfTables_36 : decode cX3_digestOfTables 36 = .ok (.iinc 5 1, 3) := by decide +kernel
theorem dX3_digestOfTables_39 : decode cX3_digestOfTables 39 = .ok (.goto (-34), 3) := by decide +kernel
theorem dX3_digestOfTables_42 : decode cX3_digestOfTables 42 = .ok (.lload_n 3, 1) := by decide +kernel
theorem dX3_digestOfTables_43 : decode cX3_digestOfTables 43 = .ok (.lreturn, 1) := by decide +kernel
set_option maxRecDepth 20000 in
theorem ggX3_digestOfCoracles_X2_coracleOf : GoodIn wsX3_digestOfCoracles wsX2_coracleOf := goodIn_r _ [7, 8, 33, 34, 35, 36, 37, 38, 39, 40, 41, 42] (by decide +kernel) (by decide +kernel)
set_option maxRecDepth 20000 in
theorem gX3_digestOfCoracles_X2_coracleOf : GoodIn wsX3_digestOfCoracles (wsV RX3 58 RX2 yX2_coracleOf wsX2_coracleOf) := goodIn_app (goodIn_of _ (by decide +kernel)) ggX3_digestOfCoracles_X2_coracleOf
set_option maxRecDepth 20000 in
theorem ggX3_digestOfCoracles_X0_tell : GoodIn wsX3_digestOfCoracles wsX0_tell := goodIn_r _ [13, 14, 15, 16, 17, 18, 19, 20, 21, 22, 23, 43, 44, 45, 46, 47, 48, 49, 50, 51, 52] (by decide +kernel) (by decide +kernel)
set_option maxRecDepth 20000 in
theorem gX3_digestOfCoracles_X0_tell : GoodIn wsX3_digestOfCoracles (wsV RX3 90 RX0 yX0_tell wsX0_tell) := goodIn_app (goodIn_of _ (by decide +kernel)) ggX3_digestOfCoracles_X0_tell
set_option maxRecDepth 20000 in
theorem ggX3_digestOfCoracles_X3_digestWith : GoodIn wsX3_digestOfCoracles wsX3_digestWith := goodIn_r _ [27, 28] (by decide +kernel) (by decide +kernel)
set_option maxRecDepth 20000 in
theorem gX3_digestOfCoracles_X3_digestWith : GoodIn wsX3_digestOfCoracles (va_wsS RX3 181 yX3_digestWith wsX3_digestWith) := goodIn_app (goodIn_of _ (by decide +kernel)) ggX3_digestOfCoracles_X3_digestWith
theorem dX3_digestOfCoracles_0 : decode cX3_digestOfCoracles 0 = .ok (.lload_n 1, 1) := by decide +kernel
theorem dX3_digestOfCoracles_1 : decode cX3_digestOfCoracles 1 = .ok (.lstore_n 3, 1) := by decide +kernel
theorem dX3_digestOfCoracles_2 : decode cX3_digestOfCoracles 2 = .ok (.iconst 0, 1) := by decide +kernel
theorem dX3_digestOfCoracles_3 : decode cX3_digestOfCoracles 3 = .ok (.istore 5, 2) := by decide +kernel
theorem dX3_digestOfCoracles_5 : decode cX3_digestOfCoracles 5 = .ok (.iload 5, 2) := by decide +kernel
theorem dX3_digestOfCoracles_7 : decode cX3_digestOfCoracles 7 = .ok (.aload_n 0, 1) := by decide +kernel
theorem dX3_digestOfCoracles_8 : decode cX3_digestOfCoracles 8 = .ok (.getfield 19, 3) := by decide +kernel
theorem dX3_digestOfCoracles_11 : decode cX3_digestOfCoracles 11 = .ok (.getfield 48, 3) := by decide +kernel
theorem dX3_digestOfCoracles_14 : decode cX3_digestOfCoracles 14 = .ok (.if_icmp .ge 44, 3) := by decide +kernel
theorem dX3_digestOfCoracles_17 : decode cX3_digestOfCoracles 17 = .ok (.iconst 0, 1) := by decide +kernel
theorem dX3_digestOfCoracles_18 : decode cX3_digestOfCoracles 18 = .ok (.istore 6, 2) := by decide +kernel
theorem dX3_digestOfCoracles_20 : decode cX3_digestOfCoracles 20 = .ok (.iload 6, 2) := by decide +kernel
theorem dX3_digestOfCoracles_22 : decode cX3_digestOfCoracles 22 = .ok (.bipush 10, 2) := by decide +kernel
theorem dX3_digestOfCoracles_24 : decode cX3_digestOfCoracles 24 = .ok (.if_icmp .ge 28, 3) := by decide +kernel
theorem dX3_digestOfCoracles_27 : decode cX3_digestOfCoracles 27 = .ok (.lload_n 3, 1) := by decide +kernel
theorem dX3_digestOfCoracles_28 : decode cX3_digestOfCoracles 28 = .ok (.aload_n 0, 1) := by decide +kernel
theorem dX3_digestOfCoracles_29 : decode cX3_digestOfCoracles 29 = .ok (.getfield 19, 3) := by decide +kernel
theorem dX3_digestOfCoracles_32 : decode cX3_digestOfCoracles 32 = .ok (.iload 5, 2) := by decide +kernel
theorem dX3_digestOfCoracles_34 : decode cX3_digestOfCoracles 34 = .ok (.invokevirtual 58, 3) := by decide +kernel
theorem dX3_digestOfCoracles_37 : decode cX3_digestOfCoracles 37 = .ok (.iload 6, 2) := by decide +kernel
theorem dX3_digestOfCoracles_39 : decode cX3_digestOfCoracles 39 = .ok (.invokevirtual 90, 3) := by decide +kernel
theorem dX3_digestOfCoracles_42 : decode cX3_digestOfCoracles 42 = .ok (.invokestatic 181, 3) := by decide +kernel
theorem dX3_digestOfCoracles_45 : decode cX3_digestOfCoracles 45 = .ok (.lstore_n 3, 1) := by decide +kernel
theorem dX3_digestOfCoracles_46 : decode cX3_digestOfCoracles 46 = .ok (.iinc 6 1, 3) := by decide +kernel
theorem dX3_digestOfCoracles_49 : decode cX3_digestOfCoracles 49 = .ok (.goto (-29), 3) := by decide +kernel
theorem dX3_digestOfCoracles_52 : decode cX3_digestOfCoracles 52 = .ok (.iinc 5 1, 3) := by decide +kernel
theorem dX3_digestOfCoracles_55 : decode cX3_digestOfCoracles 55 = .ok (.goto (-50), 3) := by decide +kernel
theorem dX3_digestOfCoracles_58 : decode cX3_digestOfCoracles 58 = .ok (.lload_n 3, 1) := by decide +kernel
theorem dX3_digestOfCoracles_59 : decode cX3_digestOfCoracles 59 = .ok (.lreturn, 1) := by decide +kernel
set_option maxRecDepth 20000 in
theorem ggX3_digestOfNets_X2_tellOfNet : GoodIn wsX3_digestOfNets wsX2_tellOfNet := goodIn_r _ [7, 8, 9, 10, 11, 12, 13, 6, 14, 15, 16, 17, 18, 19, 20, 21, 22, 23, 24, 25, 26, 27, 28, 29, 30, 31, 32, 33, 34, 35, 36, 37, 38, 39, 40, 41, 42, 43, 44, 45, 46, 47, 48, 49, 50, 51, 52, 53, 73, 74, 75, 63, 64, 65, 66, 67, 68, 69, 70, 71, 72, 76, 77, 78, 79, 80, 81, 82, 83, 84, 85] (by decide +kernel) (by decide +kernel)
set_option maxRecDepth 20000 in
theorem gX3_digestOfNets_X2_tellOfNet : GoodIn wsX3_digestOfNets (wsV RX3 97 RX2 yX2_tellOfNet wsX2_tellOfNet) := goodIn_app (goodIn_of _ (by decide +kernel)) ggX3_digestOfNets_X2_tellOfNet
set_option maxRecDepth 20000 in
theorem ggX3_digestOfNets_X3_digestWith : GoodIn wsX3_digestOfNets wsX3_digestWith := goodIn_r _ [57, 58] (by decide +kernel) (by decide +kernel)
set_option maxRecDepth 20000 in
theorem gX3_digestOfNets_X3_digestWith : GoodIn wsX3_digestOfNets (va_wsS RX3 181 yX3_digestWith wsX3_digestWith) := goodIn_app (goodIn_of _ (by decide +kernel)) ggX3_digestOfNets_X3_digestWith
theorem dX3_digestOfNets_0 : decode cX3_digestOfNets 0 = .ok (.lload_n 1, 1) := by decide +kernel
theorem dX3_digestOfNets_1 : decode cX3_digestOfNets 1 = .ok (.lstore_n 3, 1) := by decide +kernel
theorem dX3_digestOfNets_2 : decode cX3_digestOfNets 2 = .ok (.iconst 0, 1) := by decide +kernel
theorem dX3_digestOfNets_3 : decode cX3_digestOfNets 3 = .ok (.istore 5, 2) := by decide +kernel
theorem dX3_digestOfNets_5 : decode cX3_digestOfNets 5 = .ok (.iload 5, 2) := by decide +kernel
theorem dX3_digestOfNets_7 : decode cX3_digestOfNets 7 = .ok (.aload_n 0, 1) := by decide +kernel
theorem dX3_digestOfNets_8 : decode cX3_digestOfNets 8 = .ok (.getfield 19, 3) := by decide +kernel
theorem dX3_digestOfNets_11 : decode cX3_digestOfNets 11 = .ok (.getfield 94, 3) := by decide +kernel
theorem dX3_digestOfNets_14 : decode cX3_digestOfNets 14 = .ok (.if_icmp .ge 40, 3) := by decide +kernel
theorem dX3_digestOfNets_17 : decode cX3_digestOfNets 17 = .ok (.iconst 0, 1) := by decide +kernel
theorem dX3_digestOfNets_18 : decode cX3_digestOfNets 18 = .ok (.istore 6, 2) := by decide +kernel
theorem dX3_digestOfNets_20 : decode cX3_digestOfNets 20 = .ok (.iload 6, 2) := by decide +kernel
theorem dX3_digestOfNets_22 : decode cX3_digestOfNets 22 = .ok (.iconst 4, 1) := by decide +kernel
theorem dX3_digestOfNets_23 : decode cX3_digestOfNets 23 = .ok (.if_icmp .ge 25, 3) := by decide +kernel
theorem dX3_digestOfNets_26 : decode cX3_digestOfNets 26 = .ok (.lload_n 3, 1) := by decide +kernel
theorem dX3_digestOfNets_27 : decode cX3_digestOfNets 27 = .ok (.aload_n 0, 1) := by decide +kernel
theorem dX3_digestOfNets_28 : decode cX3_digestOfNets 28 = .ok (.getfield 19, 3) := by decide +kernel
theorem dX3_digestOfNets_31 : decode cX3_digestOfNets 31 = .ok (.iload 5, 2) := by decide +kernel
theorem dX3_digestOfNets_33 : decode cX3_digestOfNets 33 = .ok (.iload 6, 2) := by decide +kernel
theorem dX3_digestOfNets_35 : decode cX3_digestOfNets 35 = .ok (.invokevirtual 97, 3) := by decide +kernel
theorem dX3_digestOfNets_38 : decode cX3_digestOfNets 38 = .ok (.invokestatic 181, 3) := by decide +kernel
theorem dX3_digestOfNets_41 : decode cX3_digestOfNets 41 = .ok (.lstore_n 3, 1) := by decide +kernel
theorem dX3_digestOfNets_42 : decode cX3_digestOfNets 42 = .ok (.iinc 6 1, 3) := by decide +kernel
theorem dX3_digestOfNets_45 : decode cX3_digestOfNets 45 = .ok (.goto (-25), 3) := by decide +kernel
theorem dX3_digestOfNets_48 : decode cX3_digestOfNets 48 = .ok (.iinc 5 1, 3) := by decide +kernel
theorem dX3_digestOfNets_51 : decode cX3_digestOfNets 51 = .ok (.goto (-46), 3) := by decide +kernel
theorem dX3_digestOfNets_54 : decode cX3_digestOfNets 54 = .ok (.lload_n 3, 1) := by decide +kernel
theorem dX3_digestOfNets_55 : decode cX3_digestOfNets 55 = .ok (.lreturn, 1) := by decide +kernel
set_option maxRecDepth 20000 in
theorem ggX3_digestOfReaches_X2_tellOfReach : GoodIn wsX3_digestOfReaches wsX2_tellOfReach := goodIn_r _ [6, 7, 8, 9, 5, 10, 11, 12, 13, 14, 15, 16, 17, 18, 19, 20, 21, 22, 23, 33, 34, 35, 36, 37, 38, 39, 40, 41, 42, 43, 44, 45, 46, 47, 48, 49, 50, 51, 52] (by decide +kernel) (by decide +kernel)
set_option maxRecDepth 20000 in
theorem gX3_digestOfReaches_X2_tellOfReach : GoodIn wsX3_digestOfReaches (wsV RX3 100 RX2 yX2_tellOfReach wsX2_tellOfReach) := goodIn_app (goodIn_of _ (by decide +kernel)) ggX3_digestOfReaches_X2_tellOfReach
set_option maxRecDepth 20000 in
theorem ggX3_digestOfReaches_X3_digestWith : GoodIn wsX3_digestOfReaches wsX3_digestWith := goodIn_r _ [27, 28] (by decide +kernel) (by decide +kernel)
set_option maxRecDepth 20000 in
theorem gX3_digestOfReaches_X3_digestWith : GoodIn wsX3_digestOfReaches (va_wsS RX3 181 yX3_digestWith wsX3_digestWith) := goodIn_app (goodIn_of _ (by decide +kernel)) ggX3_digestOfReaches_X3_digestWith
theorem dX3_digestOfReaches_0 : decode cX3_digestOfReaches 0 = .ok (.lload_n 1, 1) := by decide +kernel
theorem dX3_digestOfReaches_1 : decode cX3_digestOfReaches 1 = .ok (.lstore_n 3, 1) := by decide +kernel
theorem dX3_digestOfReaches_2 : decode cX3_digestOfReaches 2 = .ok (.iconst 0, 1) := by decide +kernel
theorem dX3_digestOfReaches_3 : decode cX3_digestOfReaches 3 = .ok (.istore 5, 2) := by decide +kernel
theorem dX3_digestOfReaches_5 : decode cX3_digestOfReaches 5 = .ok (.iload 5, 2) := by decide +kernel
theorem dX3_digestOfReaches_7 : decode cX3_digestOfReaches 7 = .ok (.bipush 16, 2) := by decide +kernel
theorem dX3_digestOfReaches_9 : decode cX3_digestOfReaches 9 = .ok (.if_icmp .ge 40, 3) := by decide +kernel
theorem dX3_digestOfReaches_12 : decode cX3_digestOfReaches 12 = .ok (.iconst 0, 1) := by decide +kernel
theorem dX3_digestOfReaches_13 : decode cX3_digestOfReaches 13 = .ok (.istore 6, 2) := by decide +kernel
theorem dX3_digestOfReaches_15 : decode cX3_digestOfReaches 15 = .ok (.iload 6, 2) := by decide +kernel
theorem dX3_digestOfReaches_17 : decode cX3_digestOfReaches 17 = .ok (.iconst 2, 1) := by decide +kernel
theorem dX3_digestOfReaches_18 : decode cX3_digestOfReaches 18 = .ok (.if_icmp .ge 25, 3) := by decide +kernel
theorem dX3_digestOfReaches_21 : decode cX3_digestOfReaches 21 = .ok (.lload_n 3, 1) := by decide +kernel
theorem dX3_digestOfReaches_22 : decode cX3_digestOfReaches 22 = .ok (.aload_n 0, 1) := by decide +kernel
theorem dX3_digestOfReaches_23 : decode cX3_digestOfReaches 23 = .ok (.getfield 19, 3) := by decide +kernel
theorem dX3_digestOfReaches_26 : decode cX3_digestOfReaches 26 = .ok (.iload 5, 2) := by decide +kernel
theorem dX3_digestOfReaches_28 : decode cX3_digestOfReaches 28 = .ok (.iload 6, 2) := by decide +kernel
theorem dX3_digestOfReaches_30 : decode cX3_digestOfReaches 30 = .ok (.invokevirtual 100, 3) := by decide +kernel
theorem dX3_digestOfReaches_33 : decode cX3_digestOfReaches 33 = .ok (.invokestatic 181, 3) := by decide +kernel
theorem dX3_digestOfReaches_36 : decode cX3_digestOfReaches 36 = .ok (.lstore_n 3, 1) := by decide +kernel
theorem dX3_digestOfReaches_37 : decode cX3_digestOfReaches 37 = .ok (.iinc 6 1, 3) := by decide +kernel
theorem dX3_digestOfReaches_40 : decode cX3_digestOfReaches 40 = .ok (.goto (-25), 3) := by decide +kernel
theorem dX3_digestOfReaches_43 : decode cX3_digestOfReaches 43 = .ok (.iinc 5 1, 3) := by decide +kernel
theorem dX3_digestOfReaches_46 : decode cX3_digestOfReaches 46 = .ok (.goto (-41), 3) := by decide +kernel
theorem dX3_digestOfReaches_49 : decode cX3_digestOfReaches 49 = .ok (.lload_n 3, 1) := by decide +kernel
theorem dX3_digestOfReaches_50 : decode cX3_digestOfReaches 50 = .ok (.lreturn, 1) := by decide +kernel
theorem dX4_init_0 : decode cX4_init 0 = .ok (.aload_n 0, 1) := by decide +kernel
theorem dX4_init_1 : decode cX4_init 1 = .ok (.aload_n 1, 1) := by decide +kernel
theorem dX4_init_2 : decode cX4_init 2 = .ok (.putfield 3, 3) := by decide +kernel
theorem dX4_init_5 : decode cX4_init 5 = .ok (.aload_n 0, 1) := by decide +kernel
theorem dX4_init_6 : decode cX4_init 6 = .ok (.invokespecial 9, 3) := by decide +kernel
theorem dX4_init_9 : decode cX4_init 9 = .ok (.aload_n 0, 1) := by decide +kernel
theorem dX4_init_10 : decode cX4_init 10 = .ok (.bipush 12, 2) := by decide +kernel
theorem dX4_init_12 : decode cX4_init 12 = .ok (.putfield 15, 3) := by decide +kernel
theorem dX4_init_15 : decode cX4_init 15 = .ok (.aload_n 0, 1) := by decide +kernel
theorem dX4_init_16 : decode cX4_init 16 = .ok (.bipush 16, 2) := by decide +kernel
theorem dX4_init_18 : decode cX4_init 18 = .ok (.newarray .int, 2) := by decide +kernel
theorem dX4_init_20 : decode cX4_init 20 = .ok (.putfield 19, 3) := by decide +kernel
theorem dX4_init_23 : decode cX4_init 23 = .ok (.aload_n 0, 1) := by decide +kernel
theorem dX4_init_24 : decode cX4_init 24 = .ok (.bipush 6, 2) := by decide +kernel
theorem dX4_init_26 : decode cX4_init 26 = .ok (.newarray .int, 2) := by decide +kernel
theorem dX4_init_28 : decode cX4_init 28 = .ok (.putfield 23, 3) := by decide +kernel
theorem dX4_init_31 : decode cX4_init 31 = .ok (.aload_n 0, 1) := by decide +kernel
theorem dX4_init_32 : decode cX4_init 32 = .ok (.bipush 6, 2) := by decide +kernel
theorem dX4_init_34 : decode cX4_init 34 = .ok (.newarray .int, 2) := by decide +kernel
theorem dX4_init_36 : decode cX4_init 36 = .ok (.putfield 26, 3) := by decide +kernel
theorem dX4_init_39 : decode cX4_init 39 = .ok (.aload_n 0, 1) := by decide +kernel
theorem dX4_init_40 : decode cX4_init 40 = .ok (.bipush 6, 2) := by decide +kernel
theorem dX4_init_42 : decode cX4_init 42 = .ok (.newarray .int, 2) := by decide +kernel
theorem dX4_init_44 : decode cX4_init 44 = .ok (.putfield 29, 3) := by decide +kernel
theorem dX4_init_47 : decode cX4_init 47 = .ok (.aload_n 0, 1) := by decide +kernel
theorem dX4_init_48 : decode cX4_init 48 = .ok (.bipush 6, 2) := by decide +kernel
theorem dX4_init_50 : decode cX4_init 50 = .ok (.newarray .int, 2) := by decide +kernel
theorem dX4_init_52 : decode cX4_init 52 = .ok (.putfield 32, 3) := by decide +kernel
theorem dX4_init_55 : decode cX4_init 55 = .ok (.aload_n 0, 1) := by decide +kernel
theorem dX4_init_56 : decode cX4_init 56 = .ok (.bipush 6, 2) := by decide +kernel
theorem dX4_init_58 : decode cX4_init 58 = .ok (.newarray .int, 2) := by decide +kernel
theorem dX4_init_60 : decode cX4_init 60 = .ok (.putfield 35, 3) := by decide +kernel
theorem dX4_init_63 : decode cX4_init 63 = .ok (.aload_n 0, 1) := by decide +kernel
theorem dX4_init_64 : decode cX4_init 64 = .ok (.bipush 6, 2) := by decide +kernel
theorem dX4_init_66 : decode cX4_init 66 = .ok (.newarray .boolean, 2) := by decide +kernel
theorem dX4_init_68 : decode cX4_init 68 = .ok (.putfield 38, 3) := by decide +kernel
theorem dX4_init_71 : decode cX4_init 71 = .ok (.aload_n 0, 1) := by decide +kernel
theorem dX4_init_72 : decode cX4_init 72 = .ok (.iconst 3, 1) := by decide +kernel
theorem dX4_init_73 : decode cX4_init 73 = .ok (.newarray .int, 2) := by decide +kernel
theorem dX4_init_75 : decode cX4_init 75 = .ok (.putfield 42, 3) := by decide +kernel
theorem dX4_init_78 : decode cX4_init 78 = .ok (.return_, 1) := by decide +kernel
theorem dX4_become_0 : decode cX4_become 0 = .ok (.aload_n 0, 1) := by decide +kernel
theorem dX4_become_1 : decode cX4_become 1 = .ok (.aload_n 1, 1) := by decide +kernel
theorem dX4_become_2 : decode cX4_become 2 = .ok (.getfield 45, 3) := by decide +kernel
theorem dX4_become_5 : decode cX4_become 5 = .ok (.putfield 45, 3) := by decide +kernel
theorem dX4_become_8 : decode cX4_become 8 = .ok (.aload_n 0, 1) := by decide +kernel
theorem dX4_become_9 : decode cX4_become 9 = .ok (.aload_n 1, 1) := by decide +kernel
theorem dX4_become_10 : decode cX4_become 10 = .ok (.getfield 15, 3) := by decide +kernel
theorem dX4_become_13 : decode cX4_become 13 = .ok (.putfield 15, 3) := by decide +kernel
theorem dX4_become_16 : decode cX4_become 16 = .ok (.aload_n 0, 1) := by decide +kernel
theorem dX4_become_17 : decode cX4_become 17 = .ok (.aload_n 1, 1) := by decide +kernel
theorem dX4_become_18 : decode cX4_become 18 = .ok (.getfield 48, 3) := by decide +kernel
theorem dX4_become_21 : decode cX4_become 21 = .ok (.putfield 48, 3) := by decide +kernel
theorem dX4_become_24 : decode cX4_become 24 = .ok (.aload_n 0, 1) := by decide +kernel
theorem dX4_become_25 : decode cX4_become 25 = .ok (.aload_n 1, 1) := by decide +kernel
theorem dX4_become_26 : decode cX4_become 26 = .ok (.getfield 51, 3) := by decide +kernel
theorem dX4_become_29 : decode cX4_become 29 = .ok (.putfield 51, 3) := by decide +kernel
theorem dX4_become_32 : decode cX4_become 32 = .ok (.aload_n 1, 1) := by decide +kernel
theorem dX4_become_33 : decode cX4_become 33 = .ok (.getfield 19, 3) := by decide +kernel
theorem dX4_become_36 : decode cX4_become 36 = .ok (.iconst 0, 1) := by decide +kernel
theorem dX4_become_37 : decode cX4_become 37 = .ok (.aload_n 0, 1) := by decide +kernel
theorem dX4_become_38 : decode cX4_become 38 = .ok (.getfield 19, 3) := by decide +kernel
theorem dX4_become_41 : decode cX4_become 41 = .ok (.iconst 0, 1) := by decide +kernel
theorem dX4_become_42 : decode cX4_become 42 = .ok (.bipush 16, 2) := by decide +kernel
theorem dX4_become_44 : decode cX4_become 44 = .ok (.invokestatic 54, 3) := by decide +kernel
theorem dX4_become_47 : decode cX4_become 47 = .ok (.aload_n 1, 1) := by decide +kernel
theorem dX4_become_48 : decode cX4_become 48 = .ok (.getfield 23, 3) := by decide +kernel
theorem dX4_become_51 : decode cX4_become 51 = .ok (.iconst 0, 1) := by decide +kernel
theorem dX4_become_52 : decode cX4_become 52 = .ok (.aload_n 0, 1) := by decide +kernel
theorem dX4_become_53 : decode cX4_become 53 = .ok (.getfield 23, 3) := by decide +kernel
theorem dX4_become_56 : decode cX4_become 56 = .ok (.iconst 0, 1) := by decide +kernel
theorem dX4_become_57 : decode cX4_become 57 = .ok (.bipush 6, 2) := by decide +kernel
theorem dX4_become_59 : decode cX4_become 59 = .ok (.invokestatic 54, 3) := by decide +kernel
theorem dX4_become_62 : decode cX4_become 62 = .ok (.aload_n 1, 1) := by decide +kernel
theorem dX4_become_63 : decode cX4_become 63 = .ok (.getfield 26, 3) := by decide +kernel
theorem dX4_become_66 : decode cX4_become 66 = .ok (.iconst 0, 1) := by decide +kernel
theorem dX4_become_67 : decode cX4_become 67 = .ok (.aload_n 0, 1) := by decide +kernel
theorem dX4_become_68 : decode cX4_become 68 = .ok (.getfield 26, 3) := by decide +kernel
theorem dX4_become_71 : decode cX4_become 71 = .ok (.iconst 0, 1) := by decide +kernel
theorem dX4_become_72 : decode cX4_become 72 = .ok (.bipush 6, 2) := by decide +kernel
theorem dX4_become_74 : decode cX4_become 74 = .ok (.invokestatic 54, 3) := by decide +kernel
theorem dX4_become_77 : decode cX4_become 77 = .ok (.aload_n 1, 1) := by decide +kernel
theorem dX4_become_78 : decode cX4_become 78 = .ok (.getfield 29, 3) := by decide +kernel
theorem dX4_become_81 : decode cX4_become 81 = .ok (.iconst 0, 1) := by decide +kernel
theorem dX4_become_82 : decode cX4_become 82 = .ok (.aload_n 0, 1) := by decide +kernel
theorem dX4_become_83 : decode cX4_become 83 = .ok (.getfield 29, 3) := by decide +kernel
theorem dX4_become_86 : decode cX4_become 86 = .ok (.iconst 0, 1) := by decide +kernel
theorem dX4_become_87 : decode cX4_become 87 = .ok (.bipush 6, 2) := by decide +kernel
theorem dX4_become_89 : decode cX4_become 89 = .ok (.invokestatic 54, 3) := by decide +kernel
theorem dX4_become_92 : decode cX4_become 92 = .ok (.aload_n 1, 1) := by decide +kernel
theorem dX4_become_93 : decode cX4_become 93 = .ok (.getfield 32, 3) := by decide +kernel
theorem dX4_become_96 : decode cX4_become 96 = .ok (.iconst 0, 1) := by decide +kernel
theorem dX4_become_97 : decode cX4_become 97 = .ok (.aload_n 0, 1) := by decide +kernel
theorem dX4_become_98 : decode cX4_become 98 = .ok (.getfield 32, 3) := by decide +kernel
theorem dX4_become_101 : decode cX4_become 101 = .ok (.iconst 0, 1) := by decide +kernel
theorem dX4_become_102 : decode cX4_become 102 = .ok (.bipush 6, 2) := by decide +kernel
theorem dX4_become_104 : decode cX4_become 104 = .ok (.invokestatic 54, 3) := by decide +kernel
theorem dX4_become_107 : decode cX4_become 107 = .ok (.aload_n 1, 1) := by decide +kernel
theorem dX4_become_108 : decode cX4_become 108 = .ok (.getfield 35, 3) := by decide +kernel
theorem dX4_become_111 : decode cX4_become 111 = .ok (.iconst 0, 1) := by decide +kernel
theorem dX4_become_112 : decode cX4_become 112 = .ok (.aload_n 0, 1) := by decide +kernel
theorem dX4_become_113 : decode cX4_become 113 = .ok (.getfield 35, 3) := by decide +kernel
theorem dX4_become_116 : decode cX4_become 116 = .ok (.iconst 0, 1) := by decide +kernel
theorem dX4_become_117 : decode cX4_become 117 = .ok (.bipush 6, 2) := by decide +kernel
theorem dX4_become_119 : decode cX4_become 119 = .ok (.invokestatic 54, 3) := by decide +kernel
theorem dX4_become_122 : decode cX4_become 122 = .ok (.aload_n 1, 1) := by decide +kernel
theorem dX4_become_123 : decode cX4_become 123 = .ok (.getfield 38, 3) := by decide +kernel
theorem dX4_become_126 : decode cX4_become 126 = .ok (.iconst 0, 1) := by decide +kernel
theorem dX4_become_127 : decode cX4_become 127 = .ok (.aload_n 0, 1) := by decide +kernel
theorem dX4_become_128 : decode cX4_become 128 = .ok (.getfield 38, 3) := by decide +kernel
theorem dX4_become_131 : decode cX4_become 131 = .ok (.iconst 0, 1) := by decide +kernel
theorem dX4_become_132 : decode cX4_become 132 = .ok (.bipush 6, 2) := by decide +kernel
theorem dX4_become_134 : decode cX4_become 134 = .ok (.invokestatic 54, 3) := by decide +kernel
theorem dX4_become_137 : decode cX4_become 137 = .ok (.aload_n 1, 1) := by decide +kernel
theorem dX4_become_138 : decode cX4_become 138 = .ok (.getfield 42, 3) := by decide +kernel
theorem dX4_become_141 : decode cX4_become 141 = .ok (.iconst 0, 1) := by decide +kernel
theorem dX4_become_142 : decode cX4_become 142 = .ok (.aload_n 0, 1) := by decide +kernel
theorem dX4_become_143 : decode cX4_become 143 = .ok (.getfield 42, 3) := by decide +kernel
theorem dX4_become_146 : decode cX4_become 146 = .ok (.iconst 0, 1) := by decide +kernel
theorem dX4_become_147 : decode cX4_become 147 = .ok (.iconst 3, 1) := by decide +kernel
theorem dX4_become_148 : decode cX4_become 148 = .ok (.invokestatic 54, 3) := by decide +kernel
theorem dX4_become_151 : decode cX4_become 151 = .ok (.return_, 1) := by decide +kernel
theorem dX4_room_0 : decode cX4_room 0 = .ok (.aload_n 0, 1) := by decide +kernel
theorem dX4_room_1 : decode cX4_room 1 = .ok (.getfield 3, 3) := by decide +kernel
theorem dX4_room_4 : decode cX4_room 4 = .ok (.getfield 60, 3) := by decide +kernel
theorem dX4_room_7 : decode cX4_room 7 = .ok (.iload_n 1, 1) := by decide +kernel
theorem dX4_room_8 : decode cX4_room 8 = .ok (.iaload, 1) := by decide +kernel
theorem dX4_room_9 : decode cX4_room 9 = .ok (.aload_n 0, 1) := by decide +kernel
theorem dX4_room_10 : decode cX4_room 10 = .ok (.getfield 35, 3) := by decide +kernel
theorem dX4_room_13 : decode cX4_room 13 = .ok (.iload_n 1, 1) := by decide +kernel
theorem dX4_room_14 : decode cX4_room 14 = .ok (.iaload, 1) := by decide +kernel
theorem dX4_room_15 : decode cX4_room 15 = .ok (.isub, 1) := by decide +kernel
theorem dX4_room_16 : decode cX4_room 16 = .ok (.ireturn, 1) := by decide +kernel
theorem dX4_meets_0 : decode cX4_meets 0 = .ok (.aload_n 0, 1) := by decide +kernel
theorem dX4_meets_1 : decode cX4_meets 1 = .ok (.getfield 38, 3) := by decide +kernel
theorem dX4_meets_4 : decode cX4_meets 4 = .ok (.aload_n 0, 1) := by decide +kernel
theorem dX4_meets_5 : decode cX4_meets 5 = .ok (.getfield 3, 3) := by decide +kernel
theorem dX4_meets_8 : decode cX4_meets 8 = .ok (.getfield 63, 3) := by decide +kernel
theorem dX4_meets_11 : decode cX4_meets 11 = .ok (.iload_n 1, 1) := by decide +kernel
theorem dX4_meets_12 : decode cX4_meets 12 = .ok (.iaload, 1) := by decide +kernel
theorem dX4_meets_13 : decode cX4_meets 13 = .ok (.baload, 1) := by decide +kernel
theorem dX4_meets_14 : decode cX4_meets 14 = .ok (.ifCond .ne 55, 3) := by decide +kernel
theorem dX4_meets_17 : decode cX4_meets 17 = .ok (.aload_n 0, 1) := by decide +kernel
theorem dX4_meets_18 : decode cX4_meets 18 = .ok (.getfield 38, 3) := by decide +kernel
theorem dX4_meets_21 : decode cX4_meets 21 = .ok (.aload_n 0, 1) := by decide +kernel
theorem dX4_meets_22 : decode cX4_meets 22 = .ok (.getfield 3, 3) := by decide +kernel
theorem dX4_meets_25 : decode cX4_meets 25 = .ok (.getfield 66, 3) := by decide +kernel
theorem dX4_meets_28 : decode cX4_meets 28 = .ok (.iload_n 1, 1) := by decide +kernel
theorem dX4_meets_29 : decode cX4_meets 29 = .ok (.iaload, 1) := by decide +kernel
theorem dX4_meets_30 : decode cX4_meets 30 = .ok (.baload, 1) := by decide +kernel
theorem dX4_meets_31 : decode cX4_meets 31 = .ok (.ifCond .ne 38, 3) := by decide +kernel
theorem dX4_meets_34 : decode cX4_meets 34 = .ok (.aload_n 0, 1) := by decide +kernel
theorem dX4_meets_35 : decode cX4_meets 35 = .ok (.getfield 23, 3) := by decide +kernel
theorem dX4_meets_38 : decode cX4_meets 38 = .ok (.aload_n 0, 1) := by decide +kernel
theorem dX4_meets_39 : decode cX4_meets 39 = .ok (.getfield 3, 3) := by decide +kernel
theorem dX4_meets_42 : decode cX4_meets 42 = .ok (.getfield 63, 3) := by decide +kernel
theorem dX4_meets_45 : decode cX4_meets 45 = .ok (.iload_n 1, 1) := by decide +kernel
theorem dX4_meets_46 : decode cX4_meets 46 = .ok (.iaload, 1) := by decide +kernel
theorem dX4_meets_47 : decode cX4_meets 47 = .ok (.iaload, 1) := by decide +kernel
theorem dX4_meets_48 : decode cX4_meets 48 = .ok (.aload_n 0, 1) := by decide +kernel
theorem dX4_meets_49 : decode cX4_meets 49 = .ok (.getfield 23, 3) := by decide +kernel
theorem dX4_meets_52 : decode cX4_meets 52 = .ok (.aload_n 0, 1) := by decide +kernel
theorem dX4_meets_53 : decode cX4_meets 53 = .ok (.getfield 3, 3) := by decide +kernel
theorem dX4_meets_56 : decode cX4_meets 56 = .ok (.getfield 66, 3) := by decide +kernel
theorem dX4_meets_59 : decode cX4_meets 59 = .ok (.iload_n 1, 1) := by decide +kernel
theorem dX4_meets_60 : decode cX4_meets 60 = .ok (.iaload, 1) := by decide +kernel
theorem dX4_meets_61 : decode cX4_meets 61 = .ok (.iaload, 1) := by decide +kernel
theorem dX4_meets_62 : decode cX4_meets 62 = .ok (.if_icmp .ne 7, 3) := by decide +kernel
theorem dX4_meets_65 : decode cX4_meets 65 = .ok (.iconst 1, 1) := by decide +kernel
theorem dX4_meets_66 : decode cX4_meets 66 = .ok (.goto 4, 3) := by decide +kernel
theorem dX4_meets_69 : decode cX4_meets 69 = .ok (.iconst 0, 1) := by decide +kernel
theorem dX4_meets_70 : decode cX4_meets 70 = .ok (.ireturn, 1) := by decide +kernel
set_option maxRecDepth 20000 in
theorem ggX4_catches_X4_meets : GoodIn wsX4_catches wsX4_meets := goodIn_r _ [12, 13, 1, 3, 19, 20, 21, 22, 23, 24, 25, 26, 27, 28, 29, 30, 31, 32, 33, 34, 35, 36, 37, 38, 39, 40, 41, 42, 43, 44, 45] (by decide +kernel) (by decide +kernel)
set_option maxRecDepth 20000 in
theorem gX4_catches_X4_meets : GoodIn wsX4_catches (wsV RX4 69 RX4 yX4_meets wsX4_meets) := goodIn_app (goodIn_of _ (by decide +kernel)) ggX4_catches_X4_meets
set_option maxRecDepth 20000 in
theorem ggX4_catches_X4_room : GoodIn wsX4_catches wsX4_room := goodIn_r _ [17, 1, 18, 19, 20, 21, 22, 23, 24, 25, 26, 27, 28, 29, 30, 31, 32, 33, 34, 35, 36, 37, 38, 39, 40, 41, 42, 43, 44, 45] (by decide +kernel) (by decide +kernel)
set_option maxRecDepth 20000 in
theorem gX4_catches_X4_room : GoodIn wsX4_catches (wsV RX4 82 RX4 yX4_room wsX4_room) := goodIn_app (goodIn_of _ (by decide +kernel)) ggX4_catches_X4_room
theorem dX4_catches_0 : decode cX4_catches 0 = .ok (.aload_n 0, 1) := by decide +kernel
theorem dX4_catches_1 : decode cX4_catches 1 = .ok (.iload_n 1, 1) := by decide +kernel
theorem dX4_catches_2 : decode cX4_catches 2 = .ok (.invokevirtual 69, 3) := by decide +kernel
theorem dX4_catches_5 : decode cX4_catches 5 = .ok (.ifCond .ne 5, 3) := by decide +kernel
theorem dX4_catches_8 : decode cX4_catches 8 = .ok (.iconst 0, 1) := by decide +kernel
theorem dX4_catches_9 : decode cX4_catches 9 = .ok (.ireturn, 1) := by decide +kernel
theorem dX4_catches_10 : decode cX4_catches 10 = .ok (.aload_n 0, 1) := by decide +kernel
theorem dX4_catches_11 : decode cX4_catches 11 = .ok (.getfield 3, 3) := by decide +kernel
theorem dX4_catches_14 : decode cX4_catches 14 = .ok (.getfield 63, 3) := by decide +kernel
theorem dX4_catches_17 : decode cX4_catches 17 = .ok (.iload_n 1, 1) := by decide +kernel
theorem dX4_catches_18 : decode cX4_catches 18 = .ok (.iaload, 1) := by decide +kernel
theorem dX4_catches_19 : decode cX4_catches 19 = .ok (.istore_n 2, 1) := by decide +kernel
theorem dX4_catches_20 : decode cX4_catches 20 = .ok (.aload_n 0, 1) := by decide +kernel
theorem dX4_catches_21 : decode cX4_catches 21 = .ok (.getfield 3, 3) := by decide +kernel
theorem dX4_catches_24 : decode cX4_catches 24 = .ok (.getfield 66, 3) := by decide +kernel
theorem dX4_catches_27 : decode cX4_catches 27 = .ok (.iload_n 1, 1) := by decide +kernel
theorem dX4_catches_28 : decode cX4_catches 28 = .ok (.iaload, 1) := by decide +kernel
theorem dX4_catches_29 : decode cX4_catches 29 = .ok (.istore_n 3, 1) := by decide +kernel
theorem dX4_catches_30 : decode cX4_catches 30 = .ok (.aload_n 0, 1) := by decide +kernel
theorem dX4_catches_31 : decode cX4_catches 31 = .ok (.getfield 19, 3) := by decide +kernel
theorem dX4_catches_34 : decode cX4_catches 34 = .ok (.aload_n 0, 1) := by decide +kernel
theorem dX4_catches_35 : decode cX4_catches 35 = .ok (.getfield 23, 3) := by decide +kernel
theorem dX4_catches_38 : decode cX4_catches 38 = .ok (.iload_n 2, 1) := by decide +kernel
theorem dX4_catches_39 : decode cX4_catches 39 = .ok (.iaload, 1) := by decide +kernel
theorem dX4_catches_40 : decode cX4_catches 40 = .ok (.iaload, 1) := by decide +kernel
theorem dX4_catches_41 : decode cX4_catches 41 = .ok (.aload_n 0, 1) := by decide +kernel
theorem dX4_catches_42 : decode cX4_catches 42 = .ok (.getfield 3, 3) := by decide +kernel
theorem dX4_catches_45 : decode cX4_catches 45 = .ok (.getfield 73, 3) := by decide +kernel
theorem dX4_catches_48 : decode cX4_catches 48 = .ok (.iload_n 2, 1) := by decide +kernel
theorem dX4_catches_49 : decode cX4_catches 49 = .ok (.iaload, 1) := by decide +kernel
theorem dX4_catches_50 : decode cX4_catches 50 = .ok (.aload_n 0, 1) := by decide +kernel
theorem dX4_catches_51 : decode cX4_catches 51 = .ok (.getfield 3, 3) := by decide +kernel
theorem dX4_catches_54 : decode cX4_catches 54 = .ok (.getfield 73, 3) := by decide +kernel
theorem dX4_catches_57 : decode cX4_catches 57 = .ok (.iload_n 3, 1) := by decide +kernel
theorem dX4_catches_58 : decode cX4_catches 58 = .ok (.iaload, 1) := by decide +kernel
theorem dX4_catches_59 : decode cX4_catches 59 = .ok (.invokestatic 76, 3) := by decide +kernel
theorem dX4_catches_62 : decode cX4_catches 62 = .ok (.iconst 2, 1) := by decide +kernel
theorem dX4_catches_63 : decode cX4_catches 63 = .ok (.iadd, 1) := by decide +kernel
theorem dX4_catches_64 : decode cX4_catches 64 = .ok (.aload_n 0, 1) := by decide +kernel
theorem dX4_catches_65 : decode cX4_catches 65 = .ok (.iload_n 2, 1) := by decide +kernel
theorem dX4_catches_66 : decode cX4_catches 66 = .ok (.invokevirtual 82, 3) := by decide +kernel
theorem dX4_catches_69 : decode cX4_catches 69 = .ok (.aload_n 0, 1) := by decide +kernel
theorem dX4_catches_70 : decode cX4_catches 70 = .ok (.iload_n 3, 1) := by decide +kernel
theorem dX4_catches_71 : decode cX4_catches 71 = .ok (.invokevirtual 82, 3) := by decide +kernel
theorem dX4_catches_74 : decode cX4_catches 74 = .ok (.iadd, 1) := by decide +kernel
theorem dX4_catches_75 : decode cX4_catches 75 = .ok (.invokestatic 76, 3) := by decide +kernel
theorem dX4_catches_78 : decode cX4_catches 78 = .ok (.invokestatic 76, 3) := by decide +kernel
theorem dX4_catches_81 : decode cX4_catches 81 = .ok (.ireturn, 1) := by decide +kernel
theorem dX4_go_0 : decode cX4_go 0 = .ok (.aload_n 0, 1) := by decide +kernel
theorem dX4_go_1 : decode cX4_go 1 = .ok (.getfield 23, 3) := by decide +kernel
theorem dX4_go_4 : decode cX4_go 4 = .ok (.iload_n 1, 1) := by decide +kernel
theorem dX4_go_5 : decode cX4_go 5 = .ok (.bipush 15, 2) := by decide +kernel
theorem dX4_go_7 : decode cX4_go 7 = .ok (.aload_n 0, 1) := by decide +kernel
theorem dX4_go_8 : decode cX4_go 8 = .ok (.getfield 23, 3) := by decide +kernel
theorem dX4_go_11 : decode cX4_go 11 = .ok (.iload_n 1, 1) := by decide +kernel
theorem dX4_go_12 : decode cX4_go 12 = .ok (.iaload, 1) := by decide +kernel
theorem dX4_go_13 : decode cX4_go 13 = .ok (.aload_n 0, 1) := by decide +kernel
theorem dX4_go_14 : decode cX4_go 14 = .ok (.getfield 3, 3) := by decide +kernel
theorem dX4_go_17 : decode cX4_go 17 = .ok (.getfield 86, 3) := by decide +kernel
theorem dX4_go_20 : decode cX4_go 20 = .ok (.aload_n 0, 1) := by decide +kernel
theorem dX4_go_21 : decode cX4_go 21 = .ok (.getfield 45, 3) := by decide +kernel
theorem dX4_go_24 : decode cX4_go 24 = .ok (.bipush 8, 2) := by decide +kernel
theorem dX4_go_26 : decode cX4_go 26 = .ok (.irem, 1) := by decide +kernel
theorem dX4_go_27 : decode cX4_go 27 = .ok (.iaload, 1) := by decide +kernel
theorem dX4_go_28 : decode cX4_go 28 = .ok (.iadd, 1) := by decide +kernel
theorem dX4_go_29 : decode cX4_go 29 = .ok (.invokestatic 76, 3) := by decide +kernel
theorem dX4_go_32 : decode cX4_go 32 = .ok (.iastore, 1) := by decide +kernel
theorem dX4_go_33 : decode cX4_go 33 = .ok (.aload_n 0, 1) := by decide +kernel
theorem dX4_go_34 : decode cX4_go 34 = .ok (.getfield 3, 3) := by decide +kernel
theorem dX4_go_37 : decode cX4_go 37 = .ok (.getfield 73, 3) := by decide +kernel
theorem dX4_go_40 : decode cX4_go 40 = .ok (.iload_n 1, 1) := by decide +kernel
theorem dX4_go_41 : decode cX4_go 41 = .ok (.iaload, 1) := by decide +kernel
theorem dX4_go_42 : decode cX4_go 42 = .ok (.aload_n 0, 1) := by decide +kernel
theorem dX4_go_43 : decode cX4_go 43 = .ok (.getfield 26, 3) := by decide +kernel
theorem dX4_go_46 : decode cX4_go 46 = .ok (.iload_n 1, 1) := by decide +kernel
theorem dX4_go_47 : decode cX4_go 47 = .ok (.iaload, 1) := by decide +kernel
theorem dX4_go_48 : decode cX4_go 48 = .ok (.aload_n 0, 1) := by decide +kernel
theorem dX4_go_49 : decode cX4_go 49 = .ok (.getfield 23, 3) := by decide +kernel
theorem dX4_go_52 : decode cX4_go 52 = .ok (.iload_n 1, 1) := by decide +kernel
theorem dX4_go_53 : decode cX4_go 53 = .ok (.iaload, 1) := by decide +kernel
theorem dX4_go_54 : decode cX4_go 54 = .ok (.isub, 1) := by decide +kernel
theorem dX4_go_55 : decode cX4_go 55 = .ok (.invokestatic 89, 3) := by decide +kernel
theorem dX4_go_58 : decode cX4_go 58 = .ok (.invokestatic 76, 3) := by decide +kernel
theorem dX4_go_61 : decode cX4_go 61 = .ok (.istore_n 2, 1) := by decide +kernel
theorem dX4_go_62 : decode cX4_go 62 = .ok (.aload_n 0, 1) := by decide +kernel
theorem dX4_go_63 : decode cX4_go 63 = .ok (.getfield 23, 3) := by decide +kernel
theorem dX4_go_66 : decode cX4_go 66 = .ok (.iload_n 1, 1) := by decide +kernel
theorem dX4_go_67 : decode cX4_go 67 = .ok (.dup2, 1) := by decide +kernel
theorem dX4_go_68 : decode cX4_go 68 = .ok (.iaload, 1) := by decide +kernel
theorem dX4_go_69 : decode cX4_go 69 = .ok (.aload_n 0, 1) := by decide +kernel
theorem dX4_go_70 : decode cX4_go 70 = .ok (.getfield 26, 3) := by decide +kernel
theorem dX4_go_73 : decode cX4_go 73 = .ok (.iload_n 1, 1) := by decide +kernel
theorem dX4_go_74 : decode cX4_go 74 = .ok (.iaload, 1) := by decide +kernel
theorem dX4_go_75 : decode cX4_go 75 = .ok (.aload_n 0, 1) := by decide +kernel
theorem dX4_go_76 : decode cX4_go 76 = .ok (.getfield 23, 3) := by decide +kernel
theorem dX4_go_79 : decode cX4_go 79 = .ok (.iload_n 1, 1) := by decide +kernel
theorem dX4_go_80 : decode cX4_go 80 = .ok (.iaload, 1) := by decide +kernel
theorem dX4_go_81 : decode cX4_go 81 = .ok (.if_icmp .le 7, 3) := by decide +kernel
theorem dX4_go_84 : decode cX4_go 84 = .ok (.iload_n 2, 1) := by decide +kernel
theorem dX4_go_85 : decode cX4_go 85 = .ok (.goto 5, 3) := by decide +kernel
theorem dX4_go_88 : decode cX4_go 88 = .ok (.iload_n 2, 1) := by decide +kernel
theorem dX4_go_89 : decode cX4_go 89 = .ok (.ineg, 1) := by decide +kernel
theorem dX4_go_90 : decode cX4_go 90 = .ok (.iadd, 1) := by decide +kernel
theorem dX4_go_91 : decode cX4_go 91 = .ok (.iastore, 1) := by decide +kernel
theorem dX4_go_92 : decode cX4_go 92 = .ok (.return_, 1) := by decide +kernel
set_option maxRecDepth 20000 in
theorem ggX4_draw_X4_catches : GoodIn wsX4_draw wsX4_catches := goodIn_r _ [17, 1, 9, 10, 6, 7, 4, 8, 18, 19, 20, 16, 21, 22, 23, 24, 25, 26, 11, 27, 28, 29, 30, 31, 32, 33, 34, 35, 36, 37, 38, 39, 40, 41, 42, 43, 44, 45, 46, 47, 48, 49, 50, 51, 52, 53] (by decide +kernel) (by decide +kernel)
set_option maxRecDepth 20000 in
theorem gX4_draw_X4_catches : GoodIn wsX4_draw (wsV RX4 92 RX4 yX4_catches wsX4_catches) := goodIn_app (goodIn_of _ (by decide +kernel)) ggX4_draw_X4_catches
set_option maxRecDepth 20000 in
theorem ggX4_draw_X4_room : GoodIn wsX4_draw wsX4_room := goodIn_r _ [26, 1, 11, 27, 28, 29, 30, 31, 32, 33, 34, 35, 36, 37, 38, 39, 40, 41, 42, 43, 44, 45, 46, 47, 48, 49, 50, 51, 52, 53] (by decide +kernel) (by decide +kernel)
set_option maxRecDepth 20000 in
theorem gX4_draw_X4_room : GoodIn wsX4_draw (wsV RX4 82 RX4 yX4_room wsX4_room) := goodIn_app (goodIn_of _ (by decide +kernel)) ggX4_draw_X4_room
theorem dX4_draw_0 : decode cX4_draw 0 = .ok (.aload_n 0, 1) := by decide +kernel
theorem dX4_draw_1 : decode cX4_draw 1 = .ok (.iload_n 1, 1) := by decide +kernel
theorem dX4_draw_2 : decode cX4_draw 2 = .ok (.invokevirtual 92, 3) := by decide +kernel
theorem dX4_draw_5 : decode cX4_draw 5 = .ok (.istore_n 2, 1) := by decide +kernel
theorem dX4_draw_6 : decode cX4_draw 6 = .ok (.aload_n 0, 1) := by decide +kernel
theorem dX4_draw_7 : decode cX4_draw 7 = .ok (.getfield 3, 3) := by decide +kernel
theorem dX4_draw_10 : decode cX4_draw 10 = .ok (.getfield 63, 3) := by decide +kernel
theorem dX4_draw_13 : decode cX4_draw 13 = .ok (.iload_n 1, 1) := by decide +kernel
theorem dX4_draw_14 : decode cX4_draw 14 = .ok (.iaload, 1) := by decide +kernel
theorem dX4_draw_15 : decode cX4_draw 15 = .ok (.istore_n 3, 1) := by decide +kernel
theorem dX4_draw_16 : decode cX4_draw 16 = .ok (.aload_n 0, 1) := by decide +kernel
theorem dX4_draw_17 : decode cX4_draw 17 = .ok (.getfield 3, 3) := by decide +kernel
theorem dX4_draw_20 : decode cX4_draw 20 = .ok (.getfield 66, 3) := by decide +kernel
theorem dX4_draw_23 : decode cX4_draw 23 = .ok (.iload_n 1, 1) := by decide +kernel
theorem dX4_draw_24 : decode cX4_draw 24 = .ok (.iaload, 1) := by decide +kernel
theorem dX4_draw_25 : decode cX4_draw 25 = .ok (.istore 4, 2) := by decide +kernel
theorem dX4_draw_27 : decode cX4_draw 27 = .ok (.aload_n 0, 1) := by decide +kernel
theorem dX4_draw_28 : decode cX4_draw 28 = .ok (.iload_n 3, 1) := by decide +kernel
theorem dX4_draw_29 : decode cX4_draw 29 = .ok (.invokevirtual 82, 3) := by decide +kernel
theorem dX4_draw_32 : decode cX4_draw 32 = .ok (.iload_n 2, 1) := by decide +kernel
theorem dX4_draw_33 : decode cX4_draw 33 = .ok (.iconst 1, 1) := by decide +kernel
theorem dX4_draw_34 : decode cX4_draw 34 = .ok (.iadd, 1) := by decide +kernel
theorem dX4_draw_35 : decode cX4_draw 35 = .ok (.iconst 2, 1) := by decide +kernel
theorem dX4_draw_36 : decode cX4_draw 36 = .ok (.idiv, 1) := by decide +kernel
theorem dX4_draw_37 : decode cX4_draw 37 = .ok (.iload_n 2, 1) := by decide +kernel
theorem dX4_draw_38 : decode cX4_draw 38 = .ok (.aload_n 0, 1) := by decide +kernel
theorem dX4_draw_39 : decode cX4_draw 39 = .ok (.iload 4, 2) := by decide +kernel
theorem dX4_draw_41 : decode cX4_draw 41 = .ok (.invokevirtual 82, 3) := by decide +kernel
theorem dX4_draw_44 : decode cX4_draw 44 = .ok (.isub, 1) := by decide +kernel
theorem dX4_draw_45 : decode cX4_draw 45 = .ok (.invokestatic 95, 3) := by decide +kernel
theorem dX4_draw_48 : decode cX4_draw 48 = .ok (.invokestatic 76, 3) := by decide +kernel
theorem dX4_draw_51 : decode cX4_draw 51 = .ok (.istore 5, 2) := by decide +kernel
theorem dX4_draw_53 : decode cX4_draw 53 = .ok (.aload_n 0, 1) := by decide +kernel
theorem dX4_draw_54 : decode cX4_draw 54 = .ok (.getfield 19, 3) := by decide +kernel
theorem dX4_draw_57 : decode cX4_draw 57 = .ok (.aload_n 0, 1) := by decide +kernel
theorem dX4_draw_58 : decode cX4_draw 58 = .ok (.getfield 23, 3) := by decide +kernel
theorem dX4_draw_61 : decode cX4_draw 61 = .ok (.iload_n 3, 1) := by decide +kernel
theorem dX4_draw_62 : decode cX4_draw 62 = .ok (.iaload, 1) := by decide +kernel
theorem dX4_draw_63 : decode cX4_draw 63 = .ok (.dup2, 1) := by decide +kernel
theorem dX4_draw_64 : decode cX4_draw 64 = .ok (.iaload, 1) := by decide +kernel
theorem dX4_draw_65 : decode cX4_draw 65 = .ok (.iload_n 2, 1) := by decide +kernel
theorem dX4_draw_66 : decode cX4_draw 66 = .ok (.isub, 1) := by decide +kernel
theorem dX4_draw_67 : decode cX4_draw 67 = .ok (.iastore, 1) := by decide +kernel
theorem dX4_draw_68 : decode cX4_draw 68 = .ok (.aload_n 0, 1) := by decide +kernel
theorem dX4_draw_69 : decode cX4_draw 69 = .ok (.getfield 35, 3) := by decide +kernel
theorem dX4_draw_72 : decode cX4_draw 72 = .ok (.iload_n 3, 1) := by decide +kernel
theorem dX4_draw_73 : decode cX4_draw 73 = .ok (.dup2, 1) := by decide +kernel
theorem dX4_draw_74 : decode cX4_draw 74 = .ok (.iaload, 1) := by decide +kernel
theorem dX4_draw_75 : decode cX4_draw 75 = .ok (.iload 5, 2) := by decide +kernel
theorem dX4_draw_77 : decode cX4_draw 77 = .ok (.iadd, 1) := by decide +kernel
theorem dX4_draw_78 : decode cX4_draw 78 = .ok (.iastore, 1) := by decide +kernel
theorem dX4_draw_79 : decode cX4_draw 79 = .ok (.aload_n 0, 1) := by decide +kernel
theorem dX4_draw_80 : decode cX4_draw 80 = .ok (.getfield 35, 3) := by decide +kernel
theorem dX4_draw_83 : decode cX4_draw 83 = .ok (.iload 4, 2) := by decide +kernel
theorem dX4_draw_85 : decode cX4_draw 85 = .ok (.dup2, 1) := by decide +kernel
theorem dX4_draw_86 : decode cX4_draw 86 = .ok (.iaload, 1) := by decide +kernel
theorem dX4_draw_87 : decode cX4_draw 87 = .ok (.iload_n 2, 1) := by decide +kernel
theorem dX4_draw_88 : decode cX4_draw 88 = .ok (.iload 5, 2) := by decide +kernel
theorem dX4_draw_90 : decode cX4_draw 90 = .ok (.isub, 1) := by decide +kernel
theorem dX4_draw_91 : decode cX4_draw 91 = .ok (.iadd, 1) := by decide +kernel
theorem dX4_draw_92 : decode cX4_draw 92 = .ok (.iastore, 1) := by decide +kernel
theorem dX4_draw_93 : decode cX4_draw 93 = .ok (.aload_n 0, 1) := by decide +kernel
theorem dX4_draw_94 : decode cX4_draw 94 = .ok (.getfield 42, 3) := by decide +kernel
theorem dX4_draw_97 : decode cX4_draw 97 = .ok (.iload_n 1, 1) := by decide +kernel
theorem dX4_draw_98 : decode cX4_draw 98 = .ok (.dup2, 1) := by decide +kernel
theorem dX4_draw_99 : decode cX4_draw 99 = .ok (.iaload, 1) := by decide +kernel
theorem dX4_draw_100 : decode cX4_draw 100 = .ok (.iload_n 2, 1) := by decide +kernel
theorem dX4_draw_101 : decode cX4_draw 101 = .ok (.iadd, 1) := by decide +kernel
theorem dX4_draw_102 : decode cX4_draw 102 = .ok (.iastore, 1) := by decide +kernel
theorem dX4_draw_103 : decode cX4_draw 103 = .ok (.return_, 1) := by decide +kernel
theorem dX4_leak_0 : decode cX4_leak 0 = .ok (.aload_n 0, 1) := by decide +kernel
theorem dX4_leak_1 : decode cX4_leak 1 = .ok (.getfield 3, 3) := by decide +kernel
theorem dX4_leak_4 : decode cX4_leak 4 = .ok (.getfield 98, 3) := by decide +kernel
theorem dX4_leak_7 : decode cX4_leak 7 = .ok (.iload_n 1, 1) := by decide +kernel
theorem dX4_leak_8 : decode cX4_leak 8 = .ok (.iaload, 1) := by decide +kernel
theorem dX4_leak_9 : decode cX4_leak 9 = .ok (.iconst 2, 1) := by decide +kernel
theorem dX4_leak_10 : decode cX4_leak 10 = .ok (.if_icmp .ne 33, 3) := by decide +kernel
theorem dX4_leak_13 : decode cX4_leak 13 = .ok (.aload_n 0, 1) := by decide +kernel
theorem dX4_leak_14 : decode cX4_leak 14 = .ok (.getfield 29, 3) := by decide +kernel
theorem dX4_leak_17 : decode cX4_leak 17 = .ok (.iload_n 1, 1) := by decide +kernel
theorem dX4_leak_18 : decode cX4_leak 18 = .ok (.iaload, 1) := by decide +kernel
theorem dX4_leak_19 : decode cX4_leak 19 = .ok (.ifCond .ne 7, 3) := by decide +kernel
theorem dX4_leak_22 : decode cX4_leak 22 = .ok (.iconst 3, 1) := by decide +kernel
theorem dX4_leak_23 : decode cX4_leak 23 = .ok (.goto 19, 3) := by decide +kernel
theorem dX4_leak_26 : decode cX4_leak 26 = .ok (.aload_n 0, 1) := by decide +kernel
theorem dX4_leak_27 : decode cX4_leak 27 = .ok (.getfield 29, 3) := by decide +kernel
theorem dX4_leak_30 : decode cX4_leak 30 = .ok (.iload_n 1, 1) := by decide +kernel
theorem dX4_leak_31 : decode cX4_leak 31 = .ok (.iaload, 1) := by decide +kernel
theorem dX4_leak_32 : decode cX4_leak 32 = .ok (.bipush 8, 2) := by decide +kernel
theorem dX4_leak_34 : decode cX4_leak 34 = .ok (.if_icmp .ge 7, 3) := by decide +kernel
theorem dX4_leak_37 : decode cX4_leak 37 = .ok (.iconst 2, 1) := by decide +kernel
theorem dX4_leak_38 : decode cX4_leak 38 = .ok (.goto 4, 3) := by decide +kernel
theorem dX4_leak_41 : decode cX4_leak 41 = .ok (.iconst 0, 1) := by decide +kernel
theorem dX4_leak_42 : decode cX4_leak 42 = .ok (.ireturn, 1) := by decide +kernel
theorem dX4_leak_43 : decode cX4_leak 43 = .ok (.aload_n 0, 1) := by decide +kernel
theorem dX4_leak_44 : decode cX4_leak 44 = .ok (.getfield 29, 3) := by decide +kernel
theorem dX4_leak_47 : decode cX4_leak 47 = .ok (.iload_n 1, 1) := by decide +kernel
theorem dX4_leak_48 : decode cX4_leak 48 = .ok (.iaload, 1) := by decide +kernel
theorem dX4_leak_49 : decode cX4_leak 49 = .ok (.aload_n 0, 1) := by decide +kernel
theorem dX4_leak_50 : decode cX4_leak 50 = .ok (.getfield 3, 3) := by decide +kernel
theorem dX4_leak_53 : decode cX4_leak 53 = .ok (.getfield 98, 3) := by decide +kernel
theorem dX4_leak_56 : decode cX4_leak 56 = .ok (.iload_n 1, 1) := by decide +kernel
theorem dX4_leak_57 : decode cX4_leak 57 = .ok (.iaload, 1) := by decide +kernel
theorem dX4_leak_58 : decode cX4_leak 58 = .ok (.iconst 1, 1) := by decide +kernel
theorem dX4_leak_59 : decode cX4_leak 59 = .ok (.if_icmp .ne 8, 3) := by decide +kernel
theorem dX4_leak_62 : decode cX4_leak 62 = .ok (.bipush 8, 2) := by decide +kernel
theorem dX4_leak_64 : decode cX4_leak 64 = .ok (.goto 4, 3) := by decide +kernel
theorem dX4_leak_67 : decode cX4_leak 67 = .ok (.iconst 1, 1) := by decide +kernel
theorem dX4_leak_68 : decode cX4_leak 68 = .ok (.if_icmp .ge 7, 3) := by decide +kernel
theorem dX4_leak_71 : decode cX4_leak 71 = .ok (.iconst 1, 1) := by decide +kernel
theorem dX4_leak_72 : decode cX4_leak 72 = .ok (.goto 4, 3) := by decide +kernel
theorem dX4_leak_75 : decode cX4_leak 75 = .ok (.iconst 0, 1) := by decide +kernel
theorem dX4_leak_76 : decode cX4_leak 76 = .ok (.ireturn, 1) := by decide +kernel
set_option maxRecDepth 20000 in
theorem ggX4_soak_X4_leak : GoodIn wsX4_soak wsX4_leak := goodIn_r _ [14, 7, 1, 15, 16, 17, 18, 19, 20, 21, 22, 23, 24, 25, 26, 27, 28, 29, 30, 31, 32, 33, 34, 35, 36, 37, 38, 39, 40, 41] (by decide +kernel) (by decide +kernel)
set_option maxRecDepth 20000 in
theorem gX4_soak_X4_leak : GoodIn wsX4_soak (wsV RX4 101 RX4 yX4_leak wsX4_leak) := goodIn_app (goodIn_of _ (by decide +kernel)) ggX4_soak_X4_leak
theorem dX4_soak_0 : decode cX4_soak 0 = .ok (.aload_n 0, 1) := by decide +kernel
theorem dX4_soak_1 : decode cX4_soak 1 = .ok (.getfield 29, 3) := by decide +kernel
theorem dX4_soak_4 : decode cX4_soak 4 = .ok (.iload_n 1, 1) := by decide +kernel
theorem dX4_soak_5 : decode cX4_soak 5 = .ok (.iconst 0, 1) := by decide +kernel
theorem dX4_soak_6 : decode cX4_soak 6 = .ok (.aload_n 0, 1) := by decide +kernel
theorem dX4_soak_7 : decode cX4_soak 7 = .ok (.getfield 29, 3) := by decide +kernel
theorem dX4_soak_10 : decode cX4_soak 10 = .ok (.iload_n 1, 1) := by decide +kernel
theorem dX4_soak_11 : decode cX4_soak 11 = .ok (.iaload, 1) := by decide +kernel
theorem dX4_soak_12 : decode cX4_soak 12 = .ok (.iconst 1, 1) := by decide +kernel
theorem dX4_soak_13 : decode cX4_soak 13 = .ok (.isub, 1) := by decide +kernel
theorem dX4_soak_14 : decode cX4_soak 14 = .ok (.invokestatic 95, 3) := by decide +kernel
theorem dX4_soak_17 : decode cX4_soak 17 = .ok (.iastore, 1) := by decide +kernel
theorem dX4_soak_18 : decode cX4_soak 18 = .ok (.aload_n 0, 1) := by decide +kernel
theorem dX4_soak_19 : decode cX4_soak 19 = .ok (.getfield 32, 3) := by decide +kernel
theorem dX4_soak_22 : decode cX4_soak 22 = .ok (.iload_n 1, 1) := by decide +kernel
theorem dX4_soak_23 : decode cX4_soak 23 = .ok (.dup2, 1) := by decide +kernel
theorem dX4_soak_24 : decode cX4_soak 24 = .ok (.iaload, 1) := by decide +kernel
theorem dX4_soak_25 : decode cX4_soak 25 = .ok (.aload_n 0, 1) := by decide +kernel
theorem dX4_soak_26 : decode cX4_soak 26 = .ok (.iload_n 1, 1) := by decide +kernel
theorem dX4_soak_27 : decode cX4_soak 27 = .ok (.invokevirtual 101, 3) := by decide +kernel
theorem dX4_soak_30 : decode cX4_soak 30 = .ok (.iadd, 1) := by decide +kernel
theorem dX4_soak_31 : decode cX4_soak 31 = .ok (.iastore, 1) := by decide +kernel
theorem dX4_soak_32 : decode cX4_soak 32 = .ok (.aload_n 0, 1) := by decide +kernel
theorem dX4_soak_33 : decode cX4_soak 33 = .ok (.getfield 32, 3) := by decide +kernel
theorem dX4_soak_36 : decode cX4_soak 36 = .ok (.iload_n 1, 1) := by decide +kernel
theorem dX4_soak_37 : decode cX4_soak 37 = .ok (.iaload, 1) := by decide +kernel
theorem dX4_soak_38 : decode cX4_soak 38 = .ok (.iconst 2, 1) := by decide +kernel
theorem dX4_soak_39 : decode cX4_soak 39 = .ok (.aload_n 0, 1) := by decide +kernel
theorem dX4_soak_40 : decode cX4_soak 40 = .ok (.getfield 3, 3) := by decide +kernel
theorem dX4_soak_43 : decode cX4_soak 43 = .ok (.getfield 60, 3) := by decide +kernel
theorem dX4_soak_46 : decode cX4_soak 46 = .ok (.iload_n 1, 1) := by decide +kernel
theorem dX4_soak_47 : decode cX4_soak 47 = .ok (.iaload, 1) := by decide +kernel
theorem dX4_soak_48 : decode cX4_soak 48 = .ok (.imul, 1) := by decide +kernel
theorem dX4_soak_49 : decode cX4_soak 49 = .ok (.if_icmp .ge 4, 3) := by decide +kernel
theorem dX4_soak_52 : decode cX4_soak 52 = .ok (.return_, 1) := by decide +kernel
theorem dX4_soak_53 : decode cX4_soak 53 = .ok (.aload_n 0, 1) := by decide +kernel
theorem dX4_soak_54 : decode cX4_soak 54 = .ok (.getfield 38, 3) := by decide +kernel
theorem dX4_soak_57 : decode cX4_soak 57 = .ok (.iload_n 1, 1) := by decide +kernel
theorem dX4_soak_58 : decode cX4_soak 58 = .ok (.iconst 1, 1) := by decide +kernel
theorem dX4_soak_59 : decode cX4_soak 59 = .ok (.bastore, 1) := by decide +kernel
theorem dX4_soak_60 : decode cX4_soak 60 = .ok (.aload_n 0, 1) := by decide +kernel
theorem dX4_soak_61 : decode cX4_soak 61 = .ok (.getfield 35, 3) := by decide +kernel
theorem dX4_soak_64 : decode cX4_soak 64 = .ok (.iload_n 1, 1) := by decide +kernel
theorem dX4_soak_65 : decode cX4_soak 65 = .ok (.iconst 0, 1) := by decide +kernel
theorem dX4_soak_66 : decode cX4_soak 66 = .ok (.iastore, 1) := by decide +kernel
theorem dX4_soak_67 : decode cX4_soak 67 = .ok (.return_, 1) := by decide +kernel
theorem dX4_goUp_0 : decode cX4_goUp 0 = .ok (.iconst 0, 1) := by decide +kernel
theorem dX4_goUp_1 : decode cX4_goUp 1 = .ok (.istore_n 1, 1) := by decide +kernel
theorem dX4_goUp_2 : decode cX4_goUp 2 = .ok (.bipush 15, 2) := by decide +kernel
theorem dX4_goUp_4 : decode cX4_goUp 4 = .ok (.istore_n 2, 1) := by decide +kernel
theorem dX4_goUp_5 : decode cX4_goUp 5 = .ok (.iload_n 2, 1) := by decide +kernel
theorem dX4_goUp_6 : decode cX4_goUp 6 = .ok (.ifCond .lt 41, 3) := by decide +kernel
theorem dX4_goUp_9 : decode cX4_goUp 9 = .ok (.aload_n 0, 1) := by decide +kernel
theorem dX4_goUp_10 : decode cX4_goUp 10 = .ok (.getfield 19, 3) := by decide +kernel
theorem dX4_goUp_13 : decode cX4_goUp 13 = .ok (.iload_n 2, 1) := by decide +kernel
theorem dX4_goUp_14 : decode cX4_goUp 14 = .ok (.iaload, 1) := by decide +kernel
theorem dX4_goUp_15 : decode cX4_goUp 15 = .ok (.iconst 2, 1) := by decide +kernel
theorem dX4_goUp_16 : decode cX4_goUp 16 = .ok (.idiv, 1) := by decide +kernel
theorem dX4_goUp_17 : decode cX4_goUp 17 = .ok (.istore_n 3, 1) := by decide +kernel
theorem dX4_goUp_18 : decode cX4_goUp 18 = .ok (.aload_n 0, 1) := by decide +kernel
theorem dX4_goUp_19 : decode cX4_goUp 19 = .ok (.getfield 19, 3) := by decide +kernel
theorem dX4_goUp_22 : decode cX4_goUp 22 = .ok (.iload_n 2, 1) := by decide +kernel
theorem dX4_goUp_23 : decode cX4_goUp 23 = .ok (.bipush 60, 2) := by decide +kernel
theorem dX4_goUp_25 : decode cX4_goUp 25 = .ok (.aload_n 0, 1) := by decide +kernel
theorem dX4_goUp_26 : decode cX4_goUp 26 = .ok (.getfield 19, 3) := by decide +kernel
theorem dX4_goUp_29 : decode cX4_goUp 29 = .ok (.iload_n 2, 1) := by decide +kernel
theorem dX4_goUp_30 : decode cX4_goUp 30 = .ok (.iaload, 1) := by decide +kernel
theorem dX4_goUp_31 : decode cX4_goUp 31 = .ok (.iload_n 3, 1) := by decide +kernel
theorem dX4_goUp_32 : decode cX4_goUp 32 = .ok (.isub, 1) := by decide +kernel
theorem dX4_goUp_33 : decode cX4_goUp 33 = .ok (.iload_n 1, 1) := by decide +kernel
theorem dX4_goUp_34 : decode cX4_goUp 34 = .ok (.iadd, 1) := by decide +kernel
theorem dX4_goUp_35 : decode cX4_goUp 35 = .ok (.invokestatic 76, 3) := by decide +kernel
theorem dX4_goUp_38 : decode cX4_goUp 38 = .ok (.iastore, 1) := by decide +kernel
theorem dX4_goUp_39 : decode cX4_goUp 39 = .ok (.iload_n 3, 1) := by decide +kernel
theorem dX4_goUp_40 : decode cX4_goUp 40 = .ok (.istore_n 1, 1) := by decide +kernel
theorem dX4_goUp_41 : decode cX4_goUp 41 = .ok (.iinc 2 (-1), 3) := by decide +kernel
theorem dX4_goUp_44 : decode cX4_goUp 44 = .ok (.goto (-39), 3) := by decide +kernel
theorem dX4_goUp_47 : decode cX4_goUp 47 = .ok (.aload_n 0, 1) := by decide +kernel
theorem dX4_goUp_48 : decode cX4_goUp 48 = .ok (.dup, 1) := by decide +kernel
theorem dX4_goUp_49 : decode cX4_goUp 49 = .ok (.getfield 51, 3) := by decide +kernel
theorem dX4_goUp_52 : decode cX4_goUp 52 = .ok (.iload_n 1, 1) := by decide +kernel
theorem dX4_goUp_53 : decode cX4_goUp 53 = .ok (.iadd, 1) := by decide +kernel
theorem dX4_goUp_54 : decode cX4_goUp 54 = .ok (.putfield 51, 3) := by decide +kernel
theorem dX4_goUp_57 : decode cX4_goUp 57 = .ok (.return_, 1) := by decide +kernel
set_option maxRecDepth 20000 in
theorem ggX4_pass_X4_go : GoodIn wsX4_pass wsX4_go := goodIn_r _ [13, 14, 1, 3, 5, 6, 7, 8, 15, 16, 17, 18, 55, 56, 57, 58, 59, 60, 61, 62, 63, 64, 65, 66, 67, 68, 69, 70, 71, 72, 73, 74, 75, 76, 77, 78, 79, 80, 81] (by decide +kernel) (by decide +kernel)
set_option maxRecDepth 20000 in
theorem gX4_pass_X4_go : GoodIn wsX4_pass (wsV RX4 107 RX4 yX4_go wsX4_go) := goodIn_app (goodIn_of _ (by decide +kernel)) ggX4_pass_X4_go
set_option maxRecDepth 20000 in
theorem ggX4_pass_X4_draw : GoodIn wsX4_pass wsX4_draw := goodIn_r _ [22, 1, 23, 24, 7, 25, 5, 6, 8, 4, 14, 26, 27, 28, 29, 30, 12, 31, 32, 33, 34, 35, 2, 36, 37, 38, 39, 55, 56, 57, 58, 59, 60, 61, 62, 63, 64, 65, 66, 67, 68, 69, 70, 71, 72, 73, 74, 75, 76, 77, 78, 79, 80, 81] (by decide +kernel) (by decide +kernel)
set_option maxRecDepth 20000 in
theorem gX4_pass_X4_draw : GoodIn wsX4_pass (wsV RX4 114 RX4 yX4_draw wsX4_draw) := goodIn_app (goodIn_of _ (by decide +kernel)) ggX4_pass_X4_draw
set_option maxRecDepth 20000 in
theorem ggX4_pass_X4_soak : GoodIn wsX4_pass wsX4_soak := goodIn_r _ [43, 44, 23, 24, 7, 25, 45, 1, 2, 26, 46, 47, 48, 12, 49, 55, 56, 57, 58, 59, 60, 61, 62, 63, 64, 65, 66, 67, 68, 69, 70, 71, 72, 73, 74, 75, 76, 77, 78, 79, 80, 81] (by decide +kernel) (by decide +kernel)
set_option maxRecDepth 20000 in
theorem gX4_pass_X4_soak : GoodIn wsX4_pass (wsV RX4 117 RX4 yX4_soak wsX4_soak) := goodIn_app (goodIn_of _ (by decide +kernel)) ggX4_pass_X4_soak
set_option maxRecDepth 20000 in
theorem ggX4_pass_X4_goUp : GoodIn wsX4_pass wsX4_goUp := goodIn_r _ [53, 4, 5, 6, 7, 8, 54, 55, 56, 57, 58, 59, 60, 61, 62, 63, 64, 65, 66, 67] (by decide +kernel) (by decide +kernel)
set_option maxRecDepth 20000 in
theorem gX4_pass_X4_goUp : GoodIn wsX4_pass (wsV RX4 120 RX4 yX4_goUp wsX4_goUp) := goodIn_app (goodIn_of _ (by decide +kernel)) ggX4_pass_X4_goUp
theorem dX4_pass_0 : decode cX4_pass 0 = .ok (.iconst 0, 1) := by decide +kernel
theorem dX4_pass_1 : decode cX4_pass 1 = .ok (.istore_n 1, 1) := by decide +kernel
theorem dX4_pass_2 : decode cX4_pass 2 = .ok (.iload_n 1, 1) := by decide +kernel
theorem dX4_pass_3 : decode cX4_pass 3 = .ok (.aload_n 0, 1) := by decide +kernel
theorem dX4_pass_4 : decode cX4_pass 4 = .ok (.getfield 3, 3) := by decide +kernel
theorem dX4_pass_7 : decode cX4_pass 7 = .ok (.getfield 104, 3) := by decide +kernel
theorem dX4_pass_10 : decode cX4_pass 10 = .ok (.if_icmp .ge 23, 3) := by decide +kernel
theorem dX4_pass_13 : decode cX4_pass 13 = .ok (.aload_n 0, 1) := by decide +kernel
theorem dX4_pass_14 : decode cX4_pass 14 = .ok (.getfield 38, 3) := by decide +kernel
theorem dX4_pass_17 : decode cX4_pass 17 = .ok (.iload_n 1, 1) := by decide +kernel
theorem dX4_pass_18 : decode cX4_pass 18 = .ok (.baload, 1) := by decide +kernel
theorem dX4_pass_19 : decode cX4_pass 19 = .ok (.ifCond .ne 8, 3) := by decide +kernel
theorem dX4_pass_22 : decode cX4_pass 22 = .ok (.aload_n 0, 1) := by decide +kernel
theorem dX4_pass_23 : decode cX4_pass 23 = .ok (.iload_n 1, 1) := by decide +kernel
theorem dX4_pass_24 : decode cX4_pass 24 = .ok (.invokevirtual 107, 3) := by decide +kernel
theorem dX4_pass_27 : decode cX4_pass 27 = .ok (.iinc 1 1, 3) := by decide +kernel
theorem dX4_pass_30 : decode cX4_pass 30 = .ok (.goto (-28), 3) := by decide +kernel
theorem dX4_pass_33 : decode cX4_pass 33 = .ok (.iconst 0, 1) := by decide +kernel
theorem dX4_pass_34 : decode cX4_pass 34 = .ok (.istore_n 1, 1) := by decide +kernel
theorem dX4_pass_35 : decode cX4_pass 35 = .ok (.iload_n 1, 1) := by decide +kernel
theorem dX4_pass_36 : decode cX4_pass 36 = .ok (.aload_n 0, 1) := by decide +kernel
theorem dX4_pass_37 : decode cX4_pass 37 = .ok (.getfield 3, 3) := by decide +kernel
theorem dX4_pass_40 : decode cX4_pass 40 = .ok (.getfield 111, 3) := by decide +kernel
theorem dX4_pass_43 : decode cX4_pass 43 = .ok (.if_icmp .ge 14, 3) := by decide +kernel
theorem dX4_pass_46 : decode cX4_pass 46 = .ok (.aload_n 0, 1) := by decide +kernel
theorem dX4_pass_47 : decode cX4_pass 47 = .ok (.iload_n 1, 1) := by decide +kernel
theorem dX4_pass_48 : decode cX4_pass 48 = .ok (.invokevirtual 114, 3) := by decide +kernel
theorem dX4_pass_51 : decode cX4_pass 51 = .ok (.iinc 1 1, 3) := by decide +kernel
theorem dX4_pass_54 : decode cX4_pass 54 = .ok (.goto (-19), 3) := by decide +kernel
theorem dX4_pass_57 : decode cX4_pass 57 = .ok (.iconst 0, 1) := by decide +kernel
theorem dX4_pass_58 : decode cX4_pass 58 = .ok (.istore_n 1, 1) := by decide +kernel
theorem dX4_pass_59 : decode cX4_pass 59 = .ok (.iload_n 1, 1) := by decide +kernel
theorem dX4_pass_60 : decode cX4_pass 60 = .ok (.aload_n 0, 1) := by decide +kernel
theorem dX4_pass_61 : decode cX4_pass 61 = .ok (.getfield 3, 3) := by decide +kernel
theorem dX4_pass_64 : decode cX4_pass 64 = .ok (.getfield 104, 3) := by decide +kernel
theorem dX4_pass_67 : decode cX4_pass 67 = .ok (.if_icmp .ge 23, 3) := by decide +kernel
theorem dX4_pass_70 : decode cX4_pass 70 = .ok (.aload_n 0, 1) := by decide +kernel
theorem dX4_pass_71 : decode cX4_pass 71 = .ok (.getfield 38, 3) := by decide +kernel
theorem dX4_pass_74 : decode cX4_pass 74 = .ok (.iload_n 1, 1) := by decide +kernel
theorem dX4_pass_75 : decode cX4_pass 75 = .ok (.baload, 1) := by decide +kernel
theorem dX4_pass_76 : decode cX4_pass 76 = .ok (.ifCond .ne 8, 3) := by decide +kernel
theorem dX4_pass_79 : decode cX4_pass 79 = .ok (.aload_n 0, 1) := by decide +kernel
theorem dX4_pass_80 : decode cX4_pass 80 = .ok (.iload_n 1, 1) := by decide +kernel
theorem dX4_pass_81 : decode cX4_pass 81 = .ok (.invokevirtual 117, 3) := by decide +kernel
theorem dX4_pass_84 : decode cX4_pass 84 = .ok (.iinc 1 1, 3) := by decide +kernel
theorem dX4_pass_87 : decode cX4_pass 87 = .ok (.goto (-28), 3) := by decide +kernel
theorem dX4_pass_90 : decode cX4_pass 90 = .ok (.aload_n 0, 1) := by decide +kernel
theorem dX4_pass_91 : decode cX4_pass 91 = .ok (.getfield 45, 3) := by decide +kernel
theorem dX4_pass_94 : decode cX4_pass 94 = .ok (.iconst 4, 1) := by decide +kernel
theorem dX4_pass_95 : decode cX4_pass 95 = .ok (.irem, 1) := by decide +kernel
theorem dX4_pass_96 : decode cX4_pass 96 = .ok (.iconst 3, 1) := by decide +kernel
theorem dX4_pass_97 : decode cX4_pass 97 = .ok (.if_icmp .ne 7, 3) := by decide +kernel
theorem dX4_pass_100 : decode cX4_pass 100 = .ok (.aload_n 0, 1) := by decide +kernel
theorem dX4_pass_101 : decode cX4_pass 101 = .ok (.invokevirtual 120, 3) := by decide +kernel
theorem dX4_pass_104 : decode cX4_pass 104 = .ok (.aload_n 0, 1) := by decide +kernel
theorem dX4_pass_105 : decode cX4_pass 105 = .ok (.getfield 19, 3) := by decide +kernel
theorem dX4_pass_108 : decode cX4_pass 108 = .ok (.bipush 15, 2) := by decide +kernel
theorem dX4_pass_110 : decode cX4_pass 110 = .ok (.bipush 60, 2) := by decide +kernel
theorem dX4_pass_112 : decode cX4_pass 112 = .ok (.aload_n 0, 1) := by decide +kernel
theorem dX4_pass_113 : decode cX4_pass 113 = .ok (.getfield 19, 3) := by decide +kernel
theorem dX4_pass_116 : decode cX4_pass 116 = .ok (.bipush 15, 2) := by decide +kernel
theorem dX4_pass_118 : decode cX4_pass 118 = .ok (.iaload, 1) := by decide +kernel
theorem dX4_pass_119 : decode cX4_pass 119 = .ok (.aload_n 0, 1) := by decide +kernel
theorem dX4_pass_120 : decode cX4_pass 120 = .ok (.getfield 3, 3) := by decide +kernel
theorem dX4_pass_123 : decode cX4_pass 123 = .ok (.getfield 123, 3) := by decide +kernel
theorem dX4_pass_126 : decode cX4_pass 126 = .ok (.aload_n 0, 1) := by decide +kernel
theorem dX4_pass_127 : decode cX4_pass 127 = .ok (.getfield 45, 3) := by decide +kernel
theorem dX4_pass_130 : decode cX4_pass 130 = .ok (.bipush 8, 2) := by decide +kernel
theorem dX4_pass_132 : decode cX4_pass 132 = .ok (.irem, 1) := by decide +kernel
theorem dX4_pass_133 : decode cX4_pass 133 = .ok (.iaload, 1) := by decide +kernel
theorem dX4_pass_134 : decode cX4_pass 134 = .ok (.iadd, 1) := by decide +kernel
theorem dX4_pass_135 : decode cX4_pass 135 = .ok (.invokestatic 76, 3) := by decide +kernel
theorem dX4_pass_138 : decode cX4_pass 138 = .ok (.iastore, 1) := by decide +kernel
theorem dX4_pass_139 : decode cX4_pass 139 = .ok (.aload_n 0, 1) := by decide +kernel
theorem dX4_pass_140 : decode cX4_pass 140 = .ok (.dup, 1) := by decide +kernel
theorem dX4_pass_141 : decode cX4_pass 141 = .ok (.getfield 45, 3) := by decide +kernel
theorem dX4_pass_144 : decode cX4_pass 144 = .ok (.iconst 1, 1) := by decide +kernel
theorem dX4_pass_145 : decode cX4_pass 145 = .ok (.iadd, 1) := by decide +kernel
theorem dX4_pass_146 : decode cX4_pass 146 = .ok (.putfield 45, 3) := by decide +kernel
theorem dX4_pass_149 : decode cX4_pass 149 = .ok (.return_, 1) := by decide +kernel
set_option maxRecDepth 20000 in
theorem ggX4_pass__X4_pass : GoodIn wsX4_pass_ wsX4_pass := goodIn_r _ [5, 6, 7, 8, 9, 10, 11, 12, 13, 14, 15, 16, 4, 17, 18, 19, 20, 21, 22, 23, 24, 25, 26, 27, 28, 29, 30, 31, 32, 33, 34, 35, 36, 37, 38, 39, 40, 41, 42, 43, 44, 45, 46, 47, 48, 49, 50, 51, 52, 53, 54, 55, 56, 57, 58, 59, 60, 61, 62, 63, 64, 65, 66, 67, 68, 69, 70, 71, 72, 73, 74, 75, 76, 77, 78, 79, 80, 81, 82, 83, 84, 85] (by decide +kernel) (by decide +kernel)
set_option maxRecDepth 20000 in
theorem gX4_pass__X4_pass : GoodIn wsX4_pass_ (wsV RX4 126 RX4 yX4_pass wsX4_pass) := goodIn_app (goodIn_of _ (by decide +kernel)) ggX4_pass__X4_pass
theorem dX4_pass__0 : decode cX4_pass_ 0 = .ok (.iconst 0, 1) := by decide +kernel
theorem dX4_pass__1 : decode cX4_pass_ 1 = .ok (.istore_n 2, 1) := by decide +kernel
theorem dX4_pass__2 : decode cX4_pass_ 2 = .ok (.iload_n 2, 1) := by decide +kernel
theorem dX4_pass__3 : decode cX4_pass_ 3 = .ok (.iload_n 1, 1) := by decide +kernel
theorem dX4_pass__4 : decode cX4_pass_ 4 = .ok (.if_icmp .ge 13, 3) := by decide +kernel
theorem dX4_pass__7 : decode cX4_pass_ 7 = .ok (.aload_n 0, 1) := by decide +kernel
theorem dX4_pass__8 : decode cX4_pass_ 8 = .ok (.invokevirtual 126, 3) := by decide +kernel
theorem dX4_pass__11 : decode cX4_pass_ 11 = .ok (.iinc 2 1, 3) := by decide +kernel
theorem dX4_pass__14 : decode cX4_pass_ 14 = .ok (.goto (-12), 3) := by decide +kernel
theorem dX4_pass__17 : decode cX4_pass_ 17 = .ok (.return_, 1) := by decide +kernel
theorem dX4_afloat_0 : decode cX4_afloat 0 = .ok (.iconst 0, 1) := by decide +kernel
theorem dX4_afloat_1 : decode cX4_afloat 1 = .ok (.istore_n 1, 1) := by decide +kernel
theorem dX4_afloat_2 : decode cX4_afloat 2 = .ok (.iconst 0, 1) := by decide +kernel
theorem dX4_afloat_3 : decode cX4_afloat 3 = .ok (.istore_n 2, 1) := by decide +kernel
theorem dX4_afloat_4 : decode cX4_afloat 4 = .ok (.iload_n 2, 1) := by decide +kernel
theorem dX4_afloat_5 : decode cX4_afloat 5 = .ok (.aload_n 0, 1) := by decide +kernel
theorem dX4_afloat_6 : decode cX4_afloat 6 = .ok (.getfield 3, 3) := by decide +kernel
theorem dX4_afloat_9 : decode cX4_afloat 9 = .ok (.getfield 104, 3) := by decide +kernel
theorem dX4_afloat_12 : decode cX4_afloat 12 = .ok (.if_icmp .ge 26, 3) := by decide +kernel
theorem dX4_afloat_15 : decode cX4_afloat 15 = .ok (.iload_n 1, 1) := by decide +kernel
theorem dX4_afloat_16 : decode cX4_afloat 16 = .ok (.aload_n 0, 1) := by decide +kernel
theorem dX4_afloat_17 : decode cX4_afloat 17 = .ok (.getfield 38, 3) := by decide +kernel
theorem dX4_afloat_20 : decode cX4_afloat 20 = .ok (.iload_n 2, 1) := by decide +kernel
theorem dX4_afloat_21 : decode cX4_afloat 21 = .ok (.baload, 1) := by decide +kernel
theorem dX4_afloat_22 : decode cX4_afloat 22 = .ok (.ifCond .eq 7, 3) := by decide +kernel
theorem dX4_afloat_25 : decode cX4_afloat 25 = .ok (.iconst 0, 1) := by decide +kernel
theorem dX4_afloat_26 : decode cX4_afloat 26 = .ok (.goto 4, 3) := by decide +kernel
theorem dX4_afloat_29 : decode cX4_afloat 29 = .ok (.iconst 1, 1) := by decide +kernel
theorem dX4_afloat_30 : decode cX4_afloat 30 = .ok (.iadd, 1) := by decide +kernel
theorem dX4_afloat_31 : decode cX4_afloat 31 = .ok (.istore_n 1, 1) := by decide +kernel
theorem dX4_afloat_32 : decode cX4_afloat 32 = .ok (.iinc 2 1, 3) := by decide +kernel
theorem dX4_afloat_35 : decode cX4_afloat 35 = .ok (.goto (-31), 3) := by decide +kernel
theorem dX4_afloat_38 : decode cX4_afloat 38 = .ok (.iload_n 1, 1) := by decide +kernel
theorem dX4_afloat_39 : decode cX4_afloat 39 = .ok (.ireturn, 1) := by decide +kernel
theorem dX4_sum_0 : decode cX4_sum 0 = .ok (.iconst 0, 1) := by decide +kernel
theorem dX4_sum_1 : decode cX4_sum 1 = .ok (.istore_n 2, 1) := by decide +kernel
theorem dX4_sum_2 : decode cX4_sum 2 = .ok (.aload_n 1, 1) := by decide +kernel
theorem dX4_sum_3 : decode cX4_sum 3 = .ok (.astore_n 3, 1) := by decide +kernel
theorem dX4_sum_4 : decode cX4_sum 4 = .ok (.aload_n 3, 1) := by decide +kernel
theorem dX4_sum_5 : decode cX4_sum 5 = .ok (.arraylength, 1) := by decide +kernel
theorem dX4_sum_6 : decode cX4_sum 6 = .ok (.istore 4, 2) := by decide +kernel
theorem dX4_sum_8 : decode cX4_sum 8 = .ok (.iconst 0, 1) := by decide +kernel
theorem dX4_sum_9 : decode cX4_sum 9 = .ok (.istore 5, 2) := by decide +kernel
theorem dX4_sum_11 : decode cX4_sum 11 = .ok (.iload 5, 2) := by decide +kernel
theorem dX4_sum_13 : decode cX4_sum 13 = .ok (.iload 4, 2) := by decide +kernel
theorem dX4_sum_15 : decode cX4_sum 15 = .ok (.if_icmp .ge 20, 3) := by decide +kernel
theorem dX4_sum_18 : decode cX4_sum 18 = .ok (.aload_n 3, 1) := by decide +kernel
theorem dX4_sum_19 : decode cX4_sum 19 = .ok (.iload 5, 2) := by decide +kernel
theorem dX4_sum_21 : decode cX4_sum 21 = .ok (.iaload, 1) := by decide +kernel
theorem dX4_sum_22 : decode cX4_sum 22 = .ok (.istore 6, 2) := by decide +kernel
theorem dX4_sum_24 : decode cX4_sum 24 = .ok (.iload_n 2, 1) := by decide +kernel
theorem dX4_sum_25 : decode cX4_sum 25 = .ok (.iload 6, 2) := by decide +kernel
theorem dX4_sum_27 : decode cX4_sum 27 = .ok (.iadd, 1) := by decide +kernel
theorem dX4_sum_28 : decode cX4_sum 28 = .ok (.istore_n 2, 1) := by decide +kernel
theorem dX4_sum_29 : decode cX4_sum 29 = .ok (.iinc 5 1, 3) := by decide +kernel
theorem dX4_sum_32 : decode cX4_sum 32 = .ok (.goto (-21), 3) := by decide +kernel
theorem dX4_sum_35 : decode cX4_sum 35 = .ok (.iload_n 2, 1) := by decide +kernel
theorem dX4_sum_36 : decode cX4_sum 36 = .ok (.ireturn, 1) := by decide +kernel
set_option maxRecDepth 20000 in
theorem ggX4_counted_X4_afloat : GoodIn wsX4_counted wsX4_afloat := goodIn_r _ [12, 3, 13, 18, 19, 20, 21, 22, 23, 24, 25, 26, 27, 28, 29, 30, 31, 32, 33, 34, 35, 36, 37, 38, 39, 40, 41, 42, 43, 44] (by decide +kernel) (by decide +kernel)
set_option maxRecDepth 20000 in
theorem gX4_counted_X4_afloat : GoodIn wsX4_counted (wsV RX4 132 RX4 yX4_afloat wsX4_afloat) := goodIn_app (goodIn_of _ (by decide +kernel)) ggX4_counted_X4_afloat
set_option maxRecDepth 20000 in
theorem ggX4_counted_X4_sum : GoodIn wsX4_counted wsX4_sum := goodIn_r _ [17] (by decide +kernel) (by decide +kernel)
set_option maxRecDepth 20000 in
theorem gX4_counted_X4_sum : GoodIn wsX4_counted (wsV RX4 136 RX4 yX4_sum wsX4_sum) := goodIn_app (goodIn_of _ (by decide +kernel)) ggX4_counted_X4_sum
theorem dX4_counted_0 : decode cX4_counted 0 = .ok (.iload_n 1, 1) := by decide +kernel
theorem dX4_counted_1 : decode cX4_counted 1 = .ok (.tableswitch 122 0 9 #[55, 60, 65, 73, 81, 86, 94, 103, 112, 117], 55) := by decide +kernel
theorem dX4_counted_56 : decode cX4_counted 56 = .ok (.aload_n 0, 1) := by decide +kernel
theorem dX4_counted_57 : decode cX4_counted 57 = .ok (.getfield 45, 3) := by decide +kernel
theorem dX4_counted_60 : decode cX4_counted 60 = .ok (.ireturn, 1) := by decide +kernel
theorem dX4_counted_61 : decode cX4_counted 61 = .ok (.aload_n 0, 1) := by decide +kernel
theorem dX4_counted_62 : decode cX4_counted 62 = .ok (.getfield 15, 3) := by decide +kernel
theorem dX4_counted_65 : decode cX4_counted 65 = .ok (.ireturn, 1) := by decide +kernel
theorem dX4_counted_66 : decode cX4_counted 66 = .ok (.aload_n 0, 1) := by decide +kernel
theorem dX4_counted_67 : decode cX4_counted 67 = .ok (.getfield 3, 3) := by decide +kernel
