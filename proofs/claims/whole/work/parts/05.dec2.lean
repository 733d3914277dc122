theorem dX2_tellCount_92 : decode cX2_tellCount 92 = .ok (.getfield 55, 3) := by decide +kernel
theorem dX2_tellCount_95 : decode cX2_tellCount 95 = .ok (.ireturn, 1) := by decide +kernel
theorem dX2_tellCount_96 : decode cX2_tellCount 96 = .ok (.aload_n 0, 1) := by decide +kernel
theorem dX2_tellCount_97 : decode cX2_tellCount 97 = .ok (.invokevirtual 162, 3) := by decide +kernel
theorem dX2_tellCount_100 : decode cX2_tellCount 100 = .ok (.ireturn, 1) := by decide +kernel
theorem dX2_tellCount_101 : decode cX2_tellCount 101 = .ok (.aload_n 0, 1) := by decide +kernel
theorem dX2_tellCount_102 : decode cX2_tellCount 102 = .ok (.invokevirtual 165, 3) := by decide +kernel
theorem dX2_tellCount_105 : decode cX2_tellCount 105 = .ok (.ireturn, 1) := by decide +kernel
theorem dX2_tellCount_106 : decode cX2_tellCount 106 = .ok (.aload_n 0, 1) := by decide +kernel
theorem dX2_tellCount_107 : decode cX2_tellCount 107 = .ok (.getfield 58, 3) := by decide +kernel
theorem dX2_tellCount_110 : decode cX2_tellCount 110 = .ok (.ireturn, 1) := by decide +kernel
theorem dX2_tellCount_111 : decode cX2_tellCount 111 = .ok (.aload_n 0, 1) := by decide +kernel
theorem dX2_tellCount_112 : decode cX2_tellCount 112 = .ok (.getfield 61, 3) := by decide +kernel
theorem dX2_tellCount_115 : decode cX2_tellCount 115 = .ok (.ireturn, 1) := by decide +kernel
theorem dX2_tellCount_116 : decode cX2_tellCount 116 = .ok (.aload_n 0, 1) := by decide +kernel
theorem dX2_tellCount_117 : decode cX2_tellCount 117 = .ok (.getfield 27, 3) := by decide +kernel
theorem dX2_tellCount_120 : decode cX2_tellCount 120 = .ok (.iconst 0, 1) := by decide +kernel
theorem dX2_tellCount_121 : decode cX2_tellCount 121 = .ok (.iaload, 1) := by decide +kernel
theorem dX2_tellCount_122 : decode cX2_tellCount 122 = .ok (.ireturn, 1) := by decide +kernel
theorem dX2_tellCount_123 : decode cX2_tellCount 123 = .ok (.aload_n 0, 1) := by decide +kernel
theorem dX2_tellCount_124 : decode cX2_tellCount 124 = .ok (.getfield 27, 3) := by decide +kernel
theorem dX2_tellCount_127 : decode cX2_tellCount 127 = .ok (.iconst 1, 1) := by decide +kernel
theorem dX2_tellCount_128 : decode cX2_tellCount 128 = .ok (.iaload, 1) := by decide +kernel
theorem dX2_tellCount_129 : decode cX2_tellCount 129 = .ok (.ireturn, 1) := by decide +kernel
theorem dX2_tellCount_130 : decode cX2_tellCount 130 = .ok (.aload_n 0, 1) := by decide +kernel
theorem dX2_tellCount_131 : decode cX2_tellCount 131 = .ok (.getfield 27, 3) := by decide +kernel
theorem dX2_tellCount_134 : decode cX2_tellCount 134 = .ok (.iconst 2, 1) := by decide +kernel
theorem dX2_tellCount_135 : decode cX2_tellCount 135 = .ok (.iaload, 1) := by decide +kernel
theorem dX2_tellCount_136 : decode cX2_tellCount 136 = .ok (.ireturn, 1) := by decide +kernel
set_option maxRecDepth 20000 in
theorem ggX2_afloatAt_X0_isAfloatAt : GoodIn wsX2_afloatAt wsX0_isAfloatAt := goodIn_r _ [6, 7, 8, 19, 20, 21, 22, 23, 24, 25, 26, 27, 28] (by decide +kernel) (by decide +kernel)
set_option maxRecDepth 20000 in
theorem gX2_afloatAt_X0_isAfloatAt : GoodIn wsX2_afloatAt (wsV RX2 141 RX0 yX0_isAfloatAt wsX0_isAfloatAt) := goodIn_app (goodIn_of _ (by decide +kernel)) ggX2_afloatAt_X0_isAfloatAt
theorem dX2_afloatAt_0 : decode cX2_afloatAt 0 = .ok (.iconst 0, 1) := by decide +kernel
theorem dX2_afloatAt_1 : decode cX2_afloatAt 1 = .ok (.istore_n 2, 1) := by decide +kernel
theorem dX2_afloatAt_2 : decode cX2_afloatAt 2 = .ok (.aload_n 0, 1) := by decide +kernel
theorem dX2_afloatAt_3 : decode cX2_afloatAt 3 = .ok (.getfield 11, 3) := by decide +kernel
theorem dX2_afloatAt_6 : decode cX2_afloatAt 6 = .ok (.astore_n 3, 1) := by decide +kernel
theorem dX2_afloatAt_7 : decode cX2_afloatAt 7 = .ok (.aload_n 3, 1) := by decide +kernel
theorem dX2_afloatAt_8 : decode cX2_afloatAt 8 = .ok (.arraylength, 1) := by decide +kernel
theorem dX2_afloatAt_9 : decode cX2_afloatAt 9 = .ok (.istore 4, 2) := by decide +kernel
theorem dX2_afloatAt_11 : decode cX2_afloatAt 11 = .ok (.iconst 0, 1) := by decide +kernel
theorem dX2_afloatAt_12 : decode cX2_afloatAt 12 = .ok (.istore 5, 2) := by decide +kernel
theorem dX2_afloatAt_14 : decode cX2_afloatAt 14 = .ok (.iload 5, 2) := by decide +kernel
theorem dX2_afloatAt_16 : decode cX2_afloatAt 16 = .ok (.iload 4, 2) := by decide +kernel
theorem dX2_afloatAt_18 : decode cX2_afloatAt 18 = .ok (.if_icmp .ge 32, 3) := by decide +kernel
theorem dX2_afloatAt_21 : decode cX2_afloatAt 21 = .ok (.aload_n 3, 1) := by decide +kernel
theorem dX2_afloatAt_22 : decode cX2_afloatAt 22 = .ok (.iload 5, 2) := by decide +kernel
theorem dX2_afloatAt_24 : decode cX2_afloatAt 24 = .ok (.aaload, 1) := by decide +kernel
theorem dX2_afloatAt_25 : decode cX2_afloatAt 25 = .ok (.astore 6, 2) := by decide +kernel
theorem dX2_afloatAt_27 : decode cX2_afloatAt 27 = .ok (.iload_n 2, 1) := by decide +kernel
theorem dX2_afloatAt_28 : decode cX2_afloatAt 28 = .ok (.aload 6, 2) := by decide +kernel
theorem dX2_afloatAt_30 : decode cX2_afloatAt 30 = .ok (.iload_n 1, 1) := by decide +kernel
theorem dX2_afloatAt_31 : decode cX2_afloatAt 31 = .ok (.invokevirtual 141, 3) := by decide +kernel
theorem dX2_afloatAt_34 : decode cX2_afloatAt 34 = .ok (.ifCond .eq 7, 3) := by decide +kernel
theorem dX2_afloatAt_37 : decode cX2_afloatAt 37 = .ok (.iconst 1, 1) := by decide +kernel
theorem dX2_afloatAt_38 : decode cX2_afloatAt 38 = .ok (.goto 4, 3) := by decide +kernel
theorem dX2_afloatAt_41 : decode cX2_afloatAt 41 = .ok (.iconst 0, 1) := by decide +kernel
theorem dX2_afloatAt_42 : decode cX2_afloatAt 42 = .ok (.iadd, 1) := by decide +kernel
theorem dX2_afloatAt_43 : decode cX2_afloatAt 43 = .ok (.istore_n 2, 1) := by decide +kernel
theorem dX2_afloatAt_44 : decode cX2_afloatAt 44 = .ok (.iinc 5 1, 3) := by decide +kernel
theorem dX2_afloatAt_47 : decode cX2_afloatAt 47 = .ok (.goto (-33), 3) := by decide +kernel
theorem dX2_afloatAt_50 : decode cX2_afloatAt 50 = .ok (.iload_n 2, 1) := by decide +kernel
theorem dX2_afloatAt_51 : decode cX2_afloatAt 51 = .ok (.ireturn, 1) := by decide +kernel
theorem dX2_afloatInAll_0 : decode cX2_afloatInAll 0 = .ok (.iconst 0, 1) := by decide +kernel
theorem dX2_afloatInAll_1 : decode cX2_afloatInAll 1 = .ok (.istore_n 1, 1) := by decide +kernel
theorem dX2_afloatInAll_2 : decode cX2_afloatInAll 2 = .ok (.aload_n 0, 1) := by decide +kernel
theorem dX2_afloatInAll_3 : decode cX2_afloatInAll 3 = .ok (.getfield 11, 3) := by decide +kernel
theorem dX2_afloatInAll_6 : decode cX2_afloatInAll 6 = .ok (.astore_n 2, 1) := by decide +kernel
theorem dX2_afloatInAll_7 : decode cX2_afloatInAll 7 = .ok (.aload_n 2, 1) := by decide +kernel
theorem dX2_afloatInAll_8 : decode cX2_afloatInAll 8 = .ok (.arraylength, 1) := by decide +kernel
theorem dX2_afloatInAll_9 : decode cX2_afloatInAll 9 = .ok (.istore_n 3, 1) := by decide +kernel
theorem dX2_afloatInAll_10 : decode cX2_afloatInAll 10 = .ok (.iconst 0, 1) := by decide +kernel
theorem dX2_afloatInAll_11 : decode cX2_afloatInAll 11 = .ok (.istore 4, 2) := by decide +kernel
theorem dX2_afloatInAll_13 : decode cX2_afloatInAll 13 = .ok (.iload 4, 2) := by decide +kernel
theorem dX2_afloatInAll_15 : decode cX2_afloatInAll 15 = .ok (.iload_n 3, 1) := by decide +kernel
theorem dX2_afloatInAll_16 : decode cX2_afloatInAll 16 = .ok (.if_icmp .ge 31, 3) := by decide +kernel
theorem dX2_afloatInAll_19 : decode cX2_afloatInAll 19 = .ok (.aload_n 2, 1) := by decide +kernel
theorem dX2_afloatInAll_20 : decode cX2_afloatInAll 20 = .ok (.iload 4, 2) := by decide +kernel
theorem dX2_afloatInAll_22 : decode cX2_afloatInAll 22 = .ok (.aaload, 1) := by decide +kernel
theorem dX2_afloatInAll_23 : decode cX2_afloatInAll 23 = .ok (.astore 5, 2) := by decide +kernel
theorem dX2_afloatInAll_25 : decode cX2_afloatInAll 25 = .ok (.iload_n 1, 1) := by decide +kernel
theorem dX2_afloatInAll_26 : decode cX2_afloatInAll 26 = .ok (.aload 5, 2) := by decide +kernel
theorem dX2_afloatInAll_28 : decode cX2_afloatInAll 28 = .ok (.getfield 108, 3) := by decide +kernel
theorem dX2_afloatInAll_31 : decode cX2_afloatInAll 31 = .ok (.ifCond .eq 7, 3) := by decide +kernel
theorem dX2_afloatInAll_34 : decode cX2_afloatInAll 34 = .ok (.iconst 1, 1) := by decide +kernel
theorem dX2_afloatInAll_35 : decode cX2_afloatInAll 35 = .ok (.goto 4, 3) := by decide +kernel
theorem dX2_afloatInAll_38 : decode cX2_afloatInAll 38 = .ok (.iconst 0, 1) := by decide +kernel
theorem dX2_afloatInAll_39 : decode cX2_afloatInAll 39 = .ok (.iadd, 1) := by decide +kernel
theorem dX2_afloatInAll_40 : decode cX2_afloatInAll 40 = .ok (.istore_n 1, 1) := by decide +kernel
theorem dX2_afloatInAll_41 : decode cX2_afloatInAll 41 = .ok (.iinc 4 1, 3) := by decide +kernel
theorem dX2_afloatInAll_44 : decode cX2_afloatInAll 44 = .ok (.goto (-31), 3) := by decide +kernel
theorem dX2_afloatInAll_47 : decode cX2_afloatInAll 47 = .ok (.iload_n 1, 1) := by decide +kernel
theorem dX2_afloatInAll_48 : decode cX2_afloatInAll 48 = .ok (.ireturn, 1) := by decide +kernel
theorem dX2_loadOfAll_0 : decode cX2_loadOfAll 0 = .ok (.iconst 0, 1) := by decide +kernel
theorem dX2_loadOfAll_1 : decode cX2_loadOfAll 1 = .ok (.istore_n 1, 1) := by decide +kernel
theorem dX2_loadOfAll_2 : decode cX2_loadOfAll 2 = .ok (.aload_n 0, 1) := by decide +kernel
theorem dX2_loadOfAll_3 : decode cX2_loadOfAll 3 = .ok (.getfield 11, 3) := by decide +kernel
theorem dX2_loadOfAll_6 : decode cX2_loadOfAll 6 = .ok (.astore_n 2, 1) := by decide +kernel
theorem dX2_loadOfAll_7 : decode cX2_loadOfAll 7 = .ok (.aload_n 2, 1) := by decide +kernel
theorem dX2_loadOfAll_8 : decode cX2_loadOfAll 8 = .ok (.arraylength, 1) := by decide +kernel
theorem dX2_loadOfAll_9 : decode cX2_loadOfAll 9 = .ok (.istore_n 3, 1) := by decide +kernel
theorem dX2_loadOfAll_10 : decode cX2_loadOfAll 10 = .ok (.iconst 0, 1) := by decide +kernel
theorem dX2_loadOfAll_11 : decode cX2_loadOfAll 11 = .ok (.istore 4, 2) := by decide +kernel
theorem dX2_loadOfAll_13 : decode cX2_loadOfAll 13 = .ok (.iload 4, 2) := by decide +kernel
theorem dX2_loadOfAll_15 : decode cX2_loadOfAll 15 = .ok (.iload_n 3, 1) := by decide +kernel
theorem dX2_loadOfAll_16 : decode cX2_loadOfAll 16 = .ok (.if_icmp .ge 23, 3) := by decide +kernel
theorem dX2_loadOfAll_19 : decode cX2_loadOfAll 19 = .ok (.aload_n 2, 1) := by decide +kernel
theorem dX2_loadOfAll_20 : decode cX2_loadOfAll 20 = .ok (.iload 4, 2) := by decide +kernel
theorem dX2_loadOfAll_22 : decode cX2_loadOfAll 22 = .ok (.aaload, 1) := by decide +kernel
theorem dX2_loadOfAll_23 : decode cX2_loadOfAll 23 = .ok (.astore 5, 2) := by decide +kernel
theorem dX2_loadOfAll_25 : decode cX2_loadOfAll 25 = .ok (.iload_n 1, 1) := by decide +kernel
theorem dX2_loadOfAll_26 : decode cX2_loadOfAll 26 = .ok (.aload 5, 2) := by decide +kernel
theorem dX2_loadOfAll_28 : decode cX2_loadOfAll 28 = .ok (.getfield 132, 3) := by decide +kernel
theorem dX2_loadOfAll_31 : decode cX2_loadOfAll 31 = .ok (.iadd, 1) := by decide +kernel
theorem dX2_loadOfAll_32 : decode cX2_loadOfAll 32 = .ok (.istore_n 1, 1) := by decide +kernel
theorem dX2_loadOfAll_33 : decode cX2_loadOfAll 33 = .ok (.iinc 4 1, 3) := by decide +kernel
theorem dX2_loadOfAll_36 : decode cX2_loadOfAll 36 = .ok (.goto (-23), 3) := by decide +kernel
theorem dX2_loadOfAll_39 : decode cX2_loadOfAll 39 = .ok (.iload_n 1, 1) := by decide +kernel
theorem dX2_loadOfAll_40 : decode cX2_loadOfAll 40 = .ok (.ireturn, 1) := by decide +kernel
theorem dX2_tarOfAll_0 : decode cX2_tarOfAll 0 = .ok (.iconst 0, 1) := by decide +kernel
theorem dX2_tarOfAll_1 : decode cX2_tarOfAll 1 = .ok (.istore_n 1, 1) := by decide +kernel
theorem dX2_tarOfAll_2 : decode cX2_tarOfAll 2 = .ok (.aload_n 0, 1) := by decide +kernel
theorem dX2_tarOfAll_3 : decode cX2_tarOfAll 3 = .ok (.getfield 11, 3) := by decide +kernel
theorem dX2_tarOfAll_6 : decode cX2_tarOfAll 6 = .ok (.astore_n 2, 1) := by decide +kernel
theorem dX2_tarOfAll_7 : decode cX2_tarOfAll 7 = .ok (.aload_n 2, 1) := by decide +kernel
theorem dX2_tarOfAll_8 : decode cX2_tarOfAll 8 = .ok (.arraylength, 1) := by decide +kernel
theorem dX2_tarOfAll_9 : decode cX2_tarOfAll 9 = .ok (.istore_n 3, 1) := by decide +kernel
theorem dX2_tarOfAll_10 : decode cX2_tarOfAll 10 = .ok (.iconst 0, 1) := by decide +kernel
theorem dX2_tarOfAll_11 : decode cX2_tarOfAll 11 = .ok (.istore 4, 2) := by decide +kernel
theorem dX2_tarOfAll_13 : decode cX2_tarOfAll 13 = .ok (.iload 4, 2) := by decide +kernel
theorem dX2_tarOfAll_15 : decode cX2_tarOfAll 15 = .ok (.iload_n 3, 1) := by decide +kernel
theorem dX2_tarOfAll_16 : decode cX2_tarOfAll 16 = .ok (.if_icmp .ge 23, 3) := by decide +kernel
theorem dX2_tarOfAll_19 : decode cX2_tarOfAll 19 = .ok (.aload_n 2, 1) := by decide +kernel
theorem dX2_tarOfAll_20 : decode cX2_tarOfAll 20 = .ok (.iload 4, 2) := by decide +kernel
theorem dX2_tarOfAll_22 : decode cX2_tarOfAll 22 = .ok (.aaload, 1) := by decide +kernel
theorem dX2_tarOfAll_23 : decode cX2_tarOfAll 23 = .ok (.astore 5, 2) := by decide +kernel
theorem dX2_tarOfAll_25 : decode cX2_tarOfAll 25 = .ok (.iload_n 1, 1) := by decide +kernel
theorem dX2_tarOfAll_26 : decode cX2_tarOfAll 26 = .ok (.aload 5, 2) := by decide +kernel
theorem dX2_tarOfAll_28 : decode cX2_tarOfAll 28 = .ok (.getfield 168, 3) := by decide +kernel
theorem dX2_tarOfAll_31 : decode cX2_tarOfAll 31 = .ok (.iadd, 1) := by decide +kernel
theorem dX2_tarOfAll_32 : decode cX2_tarOfAll 32 = .ok (.istore_n 1, 1) := by decide +kernel
theorem dX2_tarOfAll_33 : decode cX2_tarOfAll 33 = .ok (.iinc 4 1, 3) := by decide +kernel
theorem dX2_tarOfAll_36 : decode cX2_tarOfAll 36 = .ok (.goto (-23), 3) := by decide +kernel
theorem dX2_tarOfAll_39 : decode cX2_tarOfAll 39 = .ok (.iload_n 1, 1) := by decide +kernel
theorem dX2_tarOfAll_40 : decode cX2_tarOfAll 40 = .ok (.ireturn, 1) := by decide +kernel
theorem dX2_salmonOfAll_0 : decode cX2_salmonOfAll 0 = .ok (.iconst 0, 1) := by decide +kernel
theorem dX2_salmonOfAll_1 : decode cX2_salmonOfAll 1 = .ok (.istore_n 1, 1) := by decide +kernel
theorem dX2_salmonOfAll_2 : decode cX2_salmonOfAll 2 = .ok (.aload_n 0, 1) := by decide +kernel
theorem dX2_salmonOfAll_3 : decode cX2_salmonOfAll 3 = .ok (.getfield 23, 3) := by decide +kernel
theorem dX2_salmonOfAll_6 : decode cX2_salmonOfAll 6 = .ok (.astore_n 2, 1) := by decide +kernel
theorem dX2_salmonOfAll_7 : decode cX2_salmonOfAll 7 = .ok (.aload_n 2, 1) := by decide +kernel
theorem dX2_salmonOfAll_8 : decode cX2_salmonOfAll 8 = .ok (.arraylength, 1) := by decide +kernel
theorem dX2_salmonOfAll_9 : decode cX2_salmonOfAll 9 = .ok (.istore_n 3, 1) := by decide +kernel
theorem dX2_salmonOfAll_10 : decode cX2_salmonOfAll 10 = .ok (.iconst 0, 1) := by decide +kernel
theorem dX2_salmonOfAll_11 : decode cX2_salmonOfAll 11 = .ok (.istore 4, 2) := by decide +kernel
theorem dX2_salmonOfAll_13 : decode cX2_salmonOfAll 13 = .ok (.iload 4, 2) := by decide +kernel
theorem dX2_salmonOfAll_15 : decode cX2_salmonOfAll 15 = .ok (.iload_n 3, 1) := by decide +kernel
theorem dX2_salmonOfAll_16 : decode cX2_salmonOfAll 16 = .ok (.if_icmp .ge 20, 3) := by decide +kernel
theorem dX2_salmonOfAll_19 : decode cX2_salmonOfAll 19 = .ok (.aload_n 2, 1) := by decide +kernel
theorem dX2_salmonOfAll_20 : decode cX2_salmonOfAll 20 = .ok (.iload 4, 2) := by decide +kernel
theorem dX2_salmonOfAll_22 : decode cX2_salmonOfAll 22 = .ok (.iaload, 1) := by decide +kernel
theorem dX2_salmonOfAll_23 : decode cX2_salmonOfAll 23 = .ok (.istore 5, 2) := by decide +kernel
theorem dX2_salmonOfAll_25 : decode cX2_salmonOfAll 25 = .ok (.iload_n 1, 1) := by decide +kernel
theorem dX2_salmonOfAll_26 : decode cX2_salmonOfAll 26 = .ok (.iload 5, 2) := by decide +kernel
theorem dX2_salmonOfAll_28 : decode cX2_salmonOfAll 28 = .ok (.iadd, 1) := by decide +kernel
theorem dX2_salmonOfAll_29 : decode cX2_salmonOfAll 29 = .ok (.istore_n 1, 1) := by decide +kernel
theorem dX2_salmonOfAll_30 : decode cX2_salmonOfAll 30 = .ok (.iinc 4 1, 3) := by decide +kernel
theorem dX2_salmonOfAll_33 : decode cX2_salmonOfAll 33 = .ok (.goto (-20), 3) := by decide +kernel
theorem dX2_salmonOfAll_36 : decode cX2_salmonOfAll 36 = .ok (.iload_n 1, 1) := by decide +kernel
theorem dX2_salmonOfAll_37 : decode cX2_salmonOfAll 37 = .ok (.ireturn, 1) := by decide +kernel
set_option maxRecDepth 20000 in
theorem ggX3_init_X2_init : GoodIn wsX3_init wsX2_init := goodIn_r _ [14, 15, 2, 3, 16, 17, 18, 19, 4, 20, 21, 22, 23, 24, 25, 26, 27, 28, 29, 30, 31, 32, 33, 38, 39, 40, 41, 42, 43, 44, 45, 46, 47, 48, 49, 50, 51, 52, 53, 54, 55, 56, 57, 58, 59, 60] (by decide +kernel) (by decide +kernel)
set_option maxRecDepth 20000 in
theorem gX3_init_X2_init : GoodIn wsX3_init (wsX2_init) := ggX3_init_X2_init
theorem dX3_init_0 : decode cX3_init 0 = .ok (.aload_n 0, 1) := by decide +kernel
theorem dX3_init_1 : decode cX3_init 1 = .ok (.invokespecial 3, 3) := by decide +kernel
theorem dX3_init_4 : decode cX3_init 4 = .ok (.aload_n 0, 1) := by decide +kernel
theorem dX3_init_5 : decode cX3_init 5 = .ok (.bipush 8, 2) := by decide +kernel
theorem dX3_init_7 : decode cX3_init 7 = .ok (.newarray .int, 2) := by decide +kernel
theorem dX3_init_9 : decode cX3_init 9 = .ok (.putfield 9, 3) := by decide +kernel
theorem dX3_init_12 : decode cX3_init 12 = .ok (.aload_n 0, 1) := by decide +kernel
theorem dX3_init_13 : decode cX3_init 13 = .ok (.bipush 8, 2) := by decide +kernel
theorem dX3_init_15 : decode cX3_init 15 = .ok (.newarray .int, 2) := by decide +kernel
theorem dX3_init_17 : decode cX3_init 17 = .ok (.putfield 13, 3) := by decide +kernel
theorem dX3_init_20 : decode cX3_init 20 = .ok (.aload_n 0, 1) := by decide +kernel
theorem dX3_init_21 : decode cX3_init 21 = .ok (.new 16, 3) := by decide +kernel
theorem dX3_init_24 : decode cX3_init 24 = .ok (.dup, 1) := by decide +kernel
theorem dX3_init_25 : decode cX3_init 25 = .ok (.invokespecial 18, 3) := by decide +kernel
theorem dX3_init_28 : decode cX3_init 28 = .ok (.putfield 19, 3) := by decide +kernel
theorem dX3_init_31 : decode cX3_init 31 = .ok (.aload_n 0, 1) := by decide +kernel
theorem dX3_init_32 : decode cX3_init 32 = .ok (.new 16, 3) := by decide +kernel
theorem dX3_init_35 : decode cX3_init 35 = .ok (.dup, 1) := by decide +kernel
theorem dX3_init_36 : decode cX3_init 36 = .ok (.invokespecial 18, 3) := by decide +kernel
theorem dX3_init_39 : decode cX3_init 39 = .ok (.putfield 23, 3) := by decide +kernel
theorem dX3_init_42 : decode cX3_init 42 = .ok (.iconst 0, 1) := by decide +kernel
theorem dX3_init_43 : decode cX3_init 43 = .ok (.istore_n 1, 1) := by decide +kernel
theorem dX3_init_44 : decode cX3_init 44 = .ok (.iload_n 1, 1) := by decide +kernel
theorem dX3_init_45 : decode cX3_init 45 = .ok (.bipush 8, 2) := by decide +kernel
theorem dX3_init_47 : decode cX3_init 47 = .ok (.if_icmp .ge 23, 3) := by decide +kernel
theorem dX3_init_50 : decode cX3_init 50 = .ok (.aload_n 0, 1) := by decide +kernel
theorem dX3_init_51 : decode cX3_init 51 = .ok (.getfield 9, 3) := by decide +kernel
theorem dX3_init_54 : decode cX3_init 54 = .ok (.iload_n 1, 1) := by decide +kernel
theorem dX3_init_55 : decode cX3_init 55 = .ok (.iconst 1, 1) := by decide +kernel
theorem dX3_init_56 : decode cX3_init 56 = .ok (.iastore, 1) := by decide +kernel
theorem dX3_init_57 : decode cX3_init 57 = .ok (.aload_n 0, 1) := by decide +kernel
theorem dX3_init_58 : decode cX3_init 58 = .ok (.getfield 13, 3) := by decide +kernel
theorem dX3_init_61 : decode cX3_init 61 = .ok (.iload_n 1, 1) := by decide +kernel
theorem dX3_init_62 : decode cX3_init 62 = .ok (.iconst 3, 1) := by decide +kernel
theorem dX3_init_63 : decode cX3_init 63 = .ok (.iastore, 1) := by decide +kernel
theorem dX3_init_64 : decode cX3_init 64 = .ok (.iinc 1 1, 3) := by decide +kernel
theorem dX3_init_67 : decode cX3_init 67 = .ok (.goto (-23), 3) := by decide +kernel
theorem dX3_init_70 : decode cX3_init 70 = .ok (.return_, 1) := by decide +kernel
set_option maxRecDepth 20000 in
theorem ggX3_setDrift_X3_checkIndex : GoodIn wsX3_setDrift wsX3_checkIndex := goodIn_ca (goodIn_r _ [5, 6, 7] (by decide +kernel) (by decide +kernel)) (goodIn_sub (fun _ h => List.mem_cons_of_mem _ (List.mem_append_left _ (List.mem_append_right _ h))) (by decide +kernel))
set_option maxRecDepth 20000 in
theorem gX3_setDrift_X3_checkIndex : GoodIn wsX3_setDrift (va_wsS RX3 26 yX3_checkIndex wsX3_checkIndex) := goodIn_app (goodIn_of _ (by decide +kernel)) ggX3_setDrift_X3_checkIndex
set_option maxRecDepth 20000 in
theorem ggX3_setDrift_X3_checkArgument : GoodIn wsX3_setDrift wsX3_checkArgument := goodIn_ca (goodIn_r _ [10, 11, 12] (by decide +kernel) (by decide +kernel)) (goodIn_sub (fun _ h => List.mem_cons_of_mem _ (List.mem_append_right _ h)) (by decide +kernel))
set_option maxRecDepth 20000 in
theorem gX3_setDrift_X3_checkArgument : GoodIn wsX3_setDrift (va_wsS RX3 30 yX3_checkArgument wsX3_checkArgument) := goodIn_app (goodIn_of _ (by decide +kernel)) ggX3_setDrift_X3_checkArgument
theorem dX3_setDrift_0 : decode cX3_setDrift 0 = .ok (.iload_n 1, 1) := by decide +kernel
theorem dX3_setDrift_1 : decode cX3_setDrift 1 = .ok (.bipush 8, 2) := by decide +kernel
theorem dX3_setDrift_3 : decode cX3_setDrift 3 = .ok (.invokestatic 26, 3) := by decide +kernel
theorem dX3_setDrift_6 : decode cX3_setDrift 6 = .ok (.iload_n 2, 1) := by decide +kernel
theorem dX3_setDrift_7 : decode cX3_setDrift 7 = .ok (.iconst 0, 1) := by decide +kernel
theorem dX3_setDrift_8 : decode cX3_setDrift 8 = .ok (.iconst 5, 1) := by decide +kernel
theorem dX3_setDrift_9 : decode cX3_setDrift 9 = .ok (.invokestatic 30, 3) := by decide +kernel
theorem dX3_setDrift_12 : decode cX3_setDrift 12 = .ok (.aload_n 0, 1) := by decide +kernel
theorem dX3_setDrift_13 : decode cX3_setDrift 13 = .ok (.getfield 9, 3) := by decide +kernel
theorem dX3_setDrift_16 : decode cX3_setDrift 16 = .ok (.iload_n 1, 1) := by decide +kernel
theorem dX3_setDrift_17 : decode cX3_setDrift 17 = .ok (.iaload, 1) := by decide +kernel
theorem dX3_setDrift_18 : decode cX3_setDrift 18 = .ok (.istore_n 3, 1) := by decide +kernel
theorem dX3_setDrift_19 : decode cX3_setDrift 19 = .ok (.aload_n 0, 1) := by decide +kernel
theorem dX3_setDrift_20 : decode cX3_setDrift 20 = .ok (.getfield 9, 3) := by decide +kernel
theorem dX3_setDrift_23 : decode cX3_setDrift 23 = .ok (.iload_n 1, 1) := by decide +kernel
theorem dX3_setDrift_24 : decode cX3_setDrift 24 = .ok (.iload_n 2, 1) := by decide +kernel
theorem dX3_setDrift_25 : decode cX3_setDrift 25 = .ok (.iastore, 1) := by decide +kernel
theorem dX3_setDrift_26 : decode cX3_setDrift 26 = .ok (.iload_n 3, 1) := by decide +kernel
theorem dX3_setDrift_27 : decode cX3_setDrift 27 = .ok (.ireturn, 1) := by decide +kernel
set_option maxRecDepth 20000 in
theorem ggX3_setRun_X3_checkIndex : GoodIn wsX3_setRun wsX3_checkIndex := goodIn_ca (goodIn_r _ [5, 6, 7] (by decide +kernel) (by decide +kernel)) (goodIn_sub (fun _ h => List.mem_cons_of_mem _ (List.mem_append_left _ (List.mem_append_right _ h))) (by decide +kernel))
set_option maxRecDepth 20000 in
theorem gX3_setRun_X3_checkIndex : GoodIn wsX3_setRun (va_wsS RX3 26 yX3_checkIndex wsX3_checkIndex) := goodIn_app (goodIn_of _ (by decide +kernel)) ggX3_setRun_X3_checkIndex
set_option maxRecDepth 20000 in
theorem ggX3_setRun_X3_checkArgument : GoodIn wsX3_setRun wsX3_checkArgument := goodIn_ca (goodIn_r _ [10, 11, 12] (by decide +kernel) (by decide +kernel)) (goodIn_sub (fun _ h => List.mem_cons_of_mem _ (List.mem_append_right _ h)) (by decide +kernel))
set_option maxRecDepth 20000 in
theorem gX3_setRun_X3_checkArgument : GoodIn wsX3_setRun (va_wsS RX3 30 yX3_checkArgument wsX3_checkArgument) := goodIn_app (goodIn_of _ (by decide +kernel)) ggX3_setRun_X3_checkArgument
theorem dX3_setRun_0 : decode cX3_setRun 0 = .ok (.iload_n 1, 1) := by decide +kernel
theorem dX3_setRun_1 : decode cX3_setRun 1 = .ok (.bipush 8, 2) := by decide +kernel
theorem dX3_setRun_3 : decode cX3_setRun 3 = .ok (.invokestatic 26, 3) := by decide +kernel
theorem dX3_setRun_6 : decode cX3_setRun 6 = .ok (.iload_n 2, 1) := by decide +kernel
theorem dX3_setRun_7 : decode cX3_setRun 7 = .ok (.iconst 0, 1) := by decide +kernel
theorem dX3_setRun_8 : decode cX3_setRun 8 = .ok (.bipush 9, 2) := by decide +kernel
theorem dX3_setRun_10 : decode cX3_setRun 10 = .ok (.invokestatic 30, 3) := by decide +kernel
theorem dX3_setRun_13 : decode cX3_setRun 13 = .ok (.aload_n 0, 1) := by decide +kernel
theorem dX3_setRun_14 : decode cX3_setRun 14 = .ok (.getfield 13, 3) := by decide +kernel
theorem dX3_setRun_17 : decode cX3_setRun 17 = .ok (.iload_n 1, 1) := by decide +kernel
theorem dX3_setRun_18 : decode cX3_setRun 18 = .ok (.iaload, 1) := by decide +kernel
theorem dX3_setRun_19 : decode cX3_setRun 19 = .ok (.istore_n 3, 1) := by decide +kernel
theorem dX3_setRun_20 : decode cX3_setRun 20 = .ok (.aload_n 0, 1) := by decide +kernel
theorem dX3_setRun_21 : decode cX3_setRun 21 = .ok (.getfield 13, 3) := by decide +kernel
theorem dX3_setRun_24 : decode cX3_setRun 24 = .ok (.iload_n 1, 1) := by decide +kernel
theorem dX3_setRun_25 : decode cX3_setRun 25 = .ok (.iload_n 2, 1) := by decide +kernel
theorem dX3_setRun_26 : decode cX3_setRun 26 = .ok (.iastore, 1) := by decide +kernel
theorem dX3_setRun_27 : decode cX3_setRun 27 = .ok (.iload_n 3, 1) := by decide +kernel
theorem dX3_setRun_28 : decode cX3_setRun 28 = .ok (.ireturn, 1) := by decide +kernel
set_option maxRecDepth 20000 in
theorem ggX3_buy_X3_checkIndex : GoodIn wsX3_buy wsX3_checkIndex := goodIn_ca (goodIn_r _ [8, 9, 10] (by decide +kernel) (by decide +kernel)) (goodIn_sub (fun _ h => List.mem_cons_of_mem _ (List.mem_append_left _ (List.mem_append_left _ (List.mem_append_right _ h)))) (by decide +kernel))
set_option maxRecDepth 20000 in
theorem gX3_buy_X3_checkIndex : GoodIn wsX3_buy (va_wsS RX3 26 yX3_checkIndex wsX3_checkIndex) := goodIn_app (goodIn_of _ (by decide +kernel)) ggX3_buy_X3_checkIndex
set_option maxRecDepth 20000 in
theorem ggX3_buy_X3_checkArgument : GoodIn wsX3_buy wsX3_checkArgument := goodIn_ca (goodIn_r _ [13, 14, 15] (by decide +kernel) (by decide +kernel)) (goodIn_sub (fun _ h => List.mem_cons_of_mem _ (List.mem_append_left _ (List.mem_append_right _ h))) (by decide +kernel))
set_option maxRecDepth 20000 in
theorem gX3_buy_X3_checkArgument : GoodIn wsX3_buy (va_wsS RX3 30 yX3_checkArgument wsX3_checkArgument) := goodIn_app (goodIn_of _ (by decide +kernel)) ggX3_buy_X3_checkArgument
set_option maxRecDepth 20000 in
theorem ggX3_buy_X3_checkState : GoodIn wsX3_buy wsX3_checkState := goodIn_ca (goodIn_r _ [18, 19, 20] (by decide +kernel) (by decide +kernel)) (goodIn_sub (fun _ h => List.mem_cons_of_mem _ (List.mem_append_right _ h)) (by decide +kernel))
set_option maxRecDepth 20000 in
theorem gX3_buy_X3_checkState : GoodIn wsX3_buy (va_wsS RX3 41 yX3_checkState wsX3_checkState) := goodIn_app (goodIn_of _ (by decide +kernel)) ggX3_buy_X3_checkState
theorem dX3_buy_0 : decode cX3_buy 0 = .ok (.iload_n 1, 1) := by decide +kernel
theorem dX3_buy_1 : decode cX3_buy 1 = .ok (.iconst 4, 1) := by decide +kernel
theorem dX3_buy_2 : decode cX3_buy 2 = .ok (.invokestatic 26, 3) := by decide +kernel
theorem dX3_buy_5 : decode cX3_buy 5 = .ok (.iload_n 2, 1) := by decide +kernel
theorem dX3_buy_6 : decode cX3_buy 6 = .ok (.iconst 1, 1) := by decide +kernel
theorem dX3_buy_7 : decode cX3_buy 7 = .ok (.bipush 40, 2) := by decide +kernel
theorem dX3_buy_9 : decode cX3_buy 9 = .ok (.invokestatic 30, 3) := by decide +kernel
theorem dX3_buy_12 : decode cX3_buy 12 = .ok (.getstatic 34, 3) := by decide +kernel
theorem dX3_buy_15 : decode cX3_buy 15 = .ok (.iload_n 1, 1) := by decide +kernel
theorem dX3_buy_16 : decode cX3_buy 16 = .ok (.iaload, 1) := by decide +kernel
theorem dX3_buy_17 : decode cX3_buy 17 = .ok (.iload_n 2, 1) := by decide +kernel
theorem dX3_buy_18 : decode cX3_buy 18 = .ok (.imul, 1) := by decide +kernel
theorem dX3_buy_19 : decode cX3_buy 19 = .ok (.istore_n 3, 1) := by decide +kernel
theorem dX3_buy_20 : decode cX3_buy 20 = .ok (.aload_n 0, 1) := by decide +kernel
theorem dX3_buy_21 : decode cX3_buy 21 = .ok (.getfield 19, 3) := by decide +kernel
theorem dX3_buy_24 : decode cX3_buy 24 = .ok (.getfield 37, 3) := by decide +kernel
theorem dX3_buy_27 : decode cX3_buy 27 = .ok (.iload_n 3, 1) := by decide +kernel
theorem dX3_buy_28 : decode cX3_buy 28 = .ok (.if_icmp .lt 7, 3) := by decide +kernel
theorem dX3_buy_31 : decode cX3_buy 31 = .ok (.iconst 1, 1) := by decide +kernel
theorem dX3_buy_32 : decode cX3_buy 32 = .ok (.goto 4, 3) := by decide +kernel
theorem dX3_buy_35 : decode cX3_buy 35 = .ok (.iconst 0, 1) := by decide +kernel
theorem dX3_buy_36 : decode cX3_buy 36 = .ok (.invokestatic 41, 3) := by decide +kernel
theorem dX3_buy_39 : decode cX3_buy 39 = .ok (.aload_n 0, 1) := by decide +kernel
theorem dX3_buy_40 : decode cX3_buy 40 = .ok (.getfield 19, 3) := by decide +kernel
theorem dX3_buy_43 : decode cX3_buy 43 = .ok (.dup, 1) := by decide +kernel
theorem dX3_buy_44 : decode cX3_buy 44 = .ok (.getfield 37, 3) := by decide +kernel
theorem dX3_buy_47 : decode cX3_buy 47 = .ok (.iload_n 3, 1) := by decide +kernel
theorem dX3_buy_48 : decode cX3_buy 48 = .ok (.isub, 1) := by decide +kernel
theorem dX3_buy_49 : decode cX3_buy 49 = .ok (.putfield 37, 3) := by decide +kernel
theorem dX3_buy_52 : decode cX3_buy 52 = .ok (.aload_n 0, 1) := by decide +kernel
theorem dX3_buy_53 : decode cX3_buy 53 = .ok (.getfield 19, 3) := by decide +kernel
theorem dX3_buy_56 : decode cX3_buy 56 = .ok (.getfield 45, 3) := by decide +kernel
theorem dX3_buy_59 : decode cX3_buy 59 = .ok (.iload_n 1, 1) := by decide +kernel
theorem dX3_buy_60 : decode cX3_buy 60 = .ok (.dup2, 1) := by decide +kernel
theorem dX3_buy_61 : decode cX3_buy 61 = .ok (.iaload, 1) := by decide +kernel
theorem dX3_buy_62 : decode cX3_buy 62 = .ok (.iload_n 2, 1) := by decide +kernel
theorem dX3_buy_63 : decode cX3_buy 63 = .ok (.iadd, 1) := by decide +kernel
theorem dX3_buy_64 : decode cX3_buy 64 = .ok (.iastore, 1) := by decide +kernel
theorem dX3_buy_65 : decode cX3_buy 65 = .ok (.aload_n 0, 1) := by decide +kernel
theorem dX3_buy_66 : decode cX3_buy 66 = .ok (.getfield 19, 3) := by decide +kernel
theorem dX3_buy_69 : decode cX3_buy 69 = .ok (.getfield 45, 3) := by decide +kernel
theorem dX3_buy_72 : decode cX3_buy 72 = .ok (.iload_n 1, 1) := by decide +kernel
theorem dX3_buy_73 : decode cX3_buy 73 = .ok (.iaload, 1) := by decide +kernel
theorem dX3_buy_74 : decode cX3_buy 74 = .ok (.ireturn, 1) := by decide +kernel
set_option maxRecDepth 20000 in
theorem ggX3_make_X3_checkIndex : GoodIn wsX3_make wsX3_checkIndex := goodIn_ca (goodIn_r _ [7, 8, 9] (by decide +kernel) (by decide +kernel)) (goodIn_sub (fun _ h => List.mem_cons_of_mem _ (List.mem_append_left _ (List.mem_append_left _ (List.mem_append_right _ h)))) (by decide +kernel))
set_option maxRecDepth 20000 in
theorem gX3_make_X3_checkIndex : GoodIn wsX3_make (va_wsS RX3 26 yX3_checkIndex wsX3_checkIndex) := goodIn_app (goodIn_of _ (by decide +kernel)) ggX3_make_X3_checkIndex
set_option maxRecDepth 20000 in
theorem ggX3_make_X3_checkArgument : GoodIn wsX3_make wsX3_checkArgument := goodIn_ca (goodIn_r _ [12, 13, 14] (by decide +kernel) (by decide +kernel)) (goodIn_sub (fun _ h => List.mem_cons_of_mem _ (List.mem_append_left _ (List.mem_append_right _ h))) (by decide +kernel))
set_option maxRecDepth 20000 in
theorem gX3_make_X3_checkArgument : GoodIn wsX3_make (va_wsS RX3 30 yX3_checkArgument wsX3_checkArgument) := goodIn_app (goodIn_of _ (by decide +kernel)) ggX3_make_X3_checkArgument
set_option maxRecDepth 20000 in
theorem ggX3_make_X3_checkState : GoodIn wsX3_make wsX3_checkState := goodIn_ca (goodIn_r _ [17, 18, 19] (by decide +kernel) (by decide +kernel)) (goodIn_sub (fun _ h => List.mem_cons_of_mem _ (List.mem_append_right _ h)) (by decide +kernel))
set_option maxRecDepth 20000 in
theorem gX3_make_X3_checkState : GoodIn wsX3_make (va_wsS RX3 41 yX3_checkState wsX3_checkState) := goodIn_app (goodIn_of _ (by decide +kernel)) ggX3_make_X3_checkState
set_option maxRecDepth 20000 in
theorem ggX3_make_X2_makeCoracle : GoodIn wsX3_make wsX2_makeCoracle := goodIn_r _ [24, 25, 26, 27, 28, 29, 23, 30, 31, 32, 33, 34, 35, 36, 37, 38, 39, 40, 41, 46, 47, 48, 49, 50, 51, 52, 53, 54, 55, 56, 57, 58, 59, 60, 61, 62, 63, 64, 65] (by decide +kernel) (by decide +kernel)
set_option maxRecDepth 20000 in
theorem gX3_make_X2_makeCoracle : GoodIn wsX3_make (wsV RX3 51 RX2 yX2_makeCoracle wsX2_makeCoracle) := goodIn_app (goodIn_of _ (by decide +kernel)) ggX3_make_X2_makeCoracle
theorem dX3_make_0 : decode cX3_make 0 = .ok (.iload_n 2, 1) := by decide +kernel
theorem dX3_make_1 : decode cX3_make 1 = .ok (.iconst 3, 1) := by decide +kernel
theorem dX3_make_2 : decode cX3_make 2 = .ok (.invokestatic 26, 3) := by decide +kernel
theorem dX3_make_5 : decode cX3_make 5 = .ok (.iload_n 1, 1) := by decide +kernel
theorem dX3_make_6 : decode cX3_make 6 = .ok (.iconst 4, 1) := by decide +kernel
theorem dX3_make_7 : decode cX3_make 7 = .ok (.bipush 12, 2) := by decide +kernel
theorem dX3_make_9 : decode cX3_make 9 = .ok (.invokestatic 30, 3) := by decide +kernel
theorem dX3_make_12 : decode cX3_make 12 = .ok (.iload_n 3, 1) := by decide +kernel
theorem dX3_make_13 : decode cX3_make 13 = .ok (.iconst 1, 1) := by decide +kernel
theorem dX3_make_14 : decode cX3_make 14 = .ok (.bipush 6, 2) := by decide +kernel
theorem dX3_make_16 : decode cX3_make 16 = .ok (.invokestatic 30, 3) := by decide +kernel
theorem dX3_make_19 : decode cX3_make 19 = .ok (.aload_n 0, 1) := by decide +kernel
theorem dX3_make_20 : decode cX3_make 20 = .ok (.getfield 19, 3) := by decide +kernel
theorem dX3_make_23 : decode cX3_make 23 = .ok (.getfield 48, 3) := by decide +kernel
theorem dX3_make_26 : decode cX3_make 26 = .ok (.bipush 6, 2) := by decide +kernel
theorem dX3_make_28 : decode cX3_make 28 = .ok (.if_icmp .ge 33, 3) := by decide +kernel
theorem dX3_make_31 : decode cX3_make 31 = .ok (.aload_n 0, 1) := by decide +kernel
theorem dX3_make_32 : decode cX3_make 32 = .ok (.getfield 19, 3) := by decide +kernel
theorem dX3_make_35 : decode cX3_make 35 = .ok (.getfield 45, 3) := by decide +kernel
theorem dX3_make_38 : decode cX3_make 38 = .ok (.iconst 3, 1) := by decide +kernel
theorem dX3_make_39 : decode cX3_make 39 = .ok (.iaload, 1) := by decide +kernel
theorem dX3_make_40 : decode cX3_make 40 = .ok (.iload_n 1, 1) := by decide +kernel
theorem dX3_make_41 : decode cX3_make 41 = .ok (.if_icmp .lt 20, 3) := by decide +kernel
theorem dX3_make_44 : decode cX3_make 44 = .ok (.aload_n 0, 1) := by decide +kernel
theorem dX3_make_45 : decode cX3_make 45 = .ok (.getfield 19, 3) := by decide +kernel
theorem dX3_make_48 : decode cX3_make 48 = .ok (.getfield 45, 3) := by decide +kernel
theorem dX3_make_51 : decode cX3_make 51 = .ok (.iload_n 2, 1) := by decide +kernel
theorem dX3_make_52 : decode cX3_make 52 = .ok (.iaload, 1) := by decide +kernel
theorem dX3_make_53 : decode cX3_make 53 = .ok (.iconst 1, 1) := by decide +kernel
theorem dX3_make_54 : decode cX3_make 54 = .ok (.if_icmp .lt 7, 3) := by decide +kernel
theorem dX3_make_57 : decode cX3_make 57 = .ok (.iconst 1, 1) := by decide +kernel
theorem dX3_make_58 : decode cX3_make 58 = .ok (.goto 4, 3) := by decide +kernel
theorem dX3_make_61 : decode cX3_make 61 = .ok (.iconst 0, 1) := by decide +kernel
theorem dX3_make_62 : decode cX3_make 62 = .ok (.invokestatic 41, 3) := by decide +kernel
theorem dX3_make_65 : decode cX3_make 65 = .ok (.aload_n 0, 1) := by decide +kernel
theorem dX3_make_66 : decode cX3_make 66 = .ok (.getfield 19, 3) := by decide +kernel
theorem dX3_make_69 : decode cX3_make 69 = .ok (.iload_n 1, 1) := by decide +kernel
theorem dX3_make_70 : decode cX3_make 70 = .ok (.iload_n 2, 1) := by decide +kernel
theorem dX3_make_71 : decode cX3_make 71 = .ok (.iload_n 3, 1) := by decide +kernel
theorem dX3_make_72 : decode cX3_make 72 = .ok (.invokevirtual 51, 3) := by decide +kernel
theorem dX3_make_75 : decode cX3_make 75 = .ok (.ireturn, 1) := by decide +kernel
set_option maxRecDepth 20000 in
theorem ggX3_net_X3_checkIndex : GoodIn wsX3_net wsX3_checkIndex := goodIn_ca (goodIn_r _ [9, 10, 11] (by decide +kernel) (by decide +kernel)) (goodIn_sub (fun _ h => List.mem_cons_of_mem _ (List.mem_append_left _ (List.mem_append_right _ h))) (by decide +kernel))
set_option maxRecDepth 20000 in
theorem gX3_net_X3_checkIndex : GoodIn wsX3_net (va_wsS RX3 26 yX3_checkIndex wsX3_checkIndex) := goodIn_app (goodIn_of _ (by decide +kernel)) ggX3_net_X3_checkIndex
set_option maxRecDepth 20000 in
theorem ggX3_net_X2_coracleOf : GoodIn wsX3_net wsX2_coracleOf := goodIn_r _ [16, 17, 41, 42, 43, 44, 45, 46, 47, 48, 49, 50] (by decide +kernel) (by decide +kernel)
set_option maxRecDepth 20000 in
theorem gX3_net_X2_coracleOf : GoodIn wsX3_net (wsV RX3 58 RX2 yX2_coracleOf wsX2_coracleOf) := goodIn_app (goodIn_of _ (by decide +kernel)) ggX3_net_X2_coracleOf
set_option maxRecDepth 20000 in
theorem ggX3_net_X3_checkState : GoodIn wsX3_net wsX3_checkState := goodIn_ca (goodIn_r _ [20, 21, 22] (by decide +kernel) (by decide +kernel)) (goodIn_sub (fun _ h => List.mem_cons_of_mem _ (List.mem_append_right _ h)) (by decide +kernel))
set_option maxRecDepth 20000 in
theorem gX3_net_X3_checkState : GoodIn wsX3_net (va_wsS RX3 41 yX3_checkState wsX3_checkState) := goodIn_app (goodIn_of _ (by decide +kernel)) ggX3_net_X3_checkState
set_option maxRecDepth 20000 in
theorem ggX3_net_X2_tieNet : GoodIn wsX3_net wsX2_tieNet := goodIn_r _ [26, 27, 28, 29, 30, 31, 32, 33, 15, 34, 35, 36, 13, 14, 16, 17, 41, 42, 43, 44, 45, 46, 47, 48, 49, 50, 61, 62, 63, 51, 52, 53, 54, 55, 56, 57, 58, 59, 60] (by decide +kernel) (by decide +kernel)
set_option maxRecDepth 20000 in
theorem gX3_net_X2_tieNet : GoodIn wsX3_net (wsV RX3 67 RX2 yX2_tieNet wsX2_tieNet) := goodIn_app (goodIn_of _ (by decide +kernel)) ggX3_net_X2_tieNet
theorem dX3_net_0 : decode cX3_net 0 = .ok (.iload_n 1, 1) := by decide +kernel
theorem dX3_net_1 : decode cX3_net 1 = .ok (.aload_n 0, 1) := by decide +kernel
theorem dX3_net_2 : decode cX3_net 2 = .ok (.getfield 19, 3) := by decide +kernel
theorem dX3_net_5 : decode cX3_net 5 = .ok (.getfield 48, 3) := by decide +kernel
theorem dX3_net_8 : decode cX3_net 8 = .ok (.invokestatic 26, 3) := by decide +kernel
theorem dX3_net_11 : decode cX3_net 11 = .ok (.iload_n 2, 1) := by decide +kernel
theorem dX3_net_12 : decode cX3_net 12 = .ok (.aload_n 0, 1) := by decide +kernel
theorem dX3_net_13 : decode cX3_net 13 = .ok (.getfield 19, 3) := by decide +kernel
theorem dX3_net_16 : decode cX3_net 16 = .ok (.getfield 48, 3) := by decide +kernel
theorem dX3_net_19 : decode cX3_net 19 = .ok (.invokestatic 26, 3) := by decide +kernel
theorem dX3_net_22 : decode cX3_net 22 = .ok (.iload_n 1, 1) := by decide +kernel
theorem dX3_net_23 : decode cX3_net 23 = .ok (.iload_n 2, 1) := by decide +kernel
theorem dX3_net_24 : decode cX3_net 24 = .ok (.if_icmp .ne 11, 3) := by decide +kernel
theorem dX3_net_27 : decode cX3_net 27 = .ok (.new 55, 3) := by decide +kernel
theorem dX3_net_30 : decode cX3_net 30 = .ok (.dup, 1) := by decide +kernel
theorem dX3_net_31 : decode cX3_net 31 = .ok (.invokespecial 57, 3) := by decide +kernel
theorem dX3_net_34 : decode cX3_net 34 = .ok (.athrow, 1) := by decide +kernel
theorem dX3_net_35 : decode cX3_net 35 = .ok (.aload_n 0, 1) := by decide +kernel
theorem dX3_net_36 : decode cX3_net 36 = .ok (.getfield 19, 3) := by decide +kernel
theorem dX3_net_39 : decode cX3_net 39 = .ok (.iload_n 1, 1) := by decide +kernel
theorem dX3_net_40 : decode cX3_net 40 = .ok (.invokevirtual 58, 3) := by decide +kernel
theorem dX3_net_43 : decode cX3_net 43 = .ok (.getfield 62, 3) := by decide +kernel
theorem dX3_net_46 : decode cX3_net 46 = .ok (.iconst (-1), 1) := by decide +kernel
theorem dX3_net_47 : decode cX3_net 47 = .ok (.if_icmp .ne 22, 3) := by decide +kernel
theorem dX3_net_50 : decode cX3_net 50 = .ok (.aload_n 0, 1) := by decide +kernel
theorem dX3_net_51 : decode cX3_net 51 = .ok (.getfield 19, 3) := by decide +kernel
theorem dX3_net_54 : decode cX3_net 54 = .ok (.iload_n 2, 1) := by decide +kernel
theorem dX3_net_55 : decode cX3_net 55 = .ok (.invokevirtual 58, 3) := by decide +kernel
theorem dX3_net_58 : decode cX3_net 58 = .ok (.getfield 62, 3) := by decide +kernel
theorem dX3_net_61 : decode cX3_net 61 = .ok (.iconst (-1), 1) := by decide +kernel
theorem dX3_net_62 : decode cX3_net 62 = .ok (.if_icmp .ne 7, 3) := by decide +kernel
theorem dX3_net_65 : decode cX3_net 65 = .ok (.iconst 1, 1) := by decide +kernel
theorem dX3_net_66 : decode cX3_net 66 = .ok (.goto 4, 3) := by decide +kernel
theorem dX3_net_69 : decode cX3_net 69 = .ok (.iconst 0, 1) := by decide +kernel
theorem dX3_net_70 : decode cX3_net 70 = .ok (.invokestatic 41, 3) := by decide +kernel
theorem dX3_net_73 : decode cX3_net 73 = .ok (.aload_n 0, 1) := by decide +kernel
theorem dX3_net_74 : decode cX3_net 74 = .ok (.getfield 19, 3) := by decide +kernel
theorem dX3_net_77 : decode cX3_net 77 = .ok (.iload_n 1, 1) := by decide +kernel
theorem dX3_net_78 : decode cX3_net 78 = .ok (.iload_n 2, 1) := by decide +kernel
theorem dX3_net_79 : decode cX3_net 79 = .ok (.invokevirtual 67, 3) := by decide +kernel
theorem dX3_net_82 : decode cX3_net 82 = .ok (.ireturn, 1) := by decide +kernel
set_option maxRecDepth 20000 in
theorem ggX3_send_X3_checkIndex : GoodIn wsX3_send wsX3_checkIndex := goodIn_ca (goodIn_r _ [7, 8, 9] (by decide +kernel) (by decide +kernel)) (goodIn_sub (fun _ h => List.mem_cons_of_mem _ (List.mem_append_right _ h)) (by decide +kernel))
set_option maxRecDepth 20000 in
theorem gX3_send_X3_checkIndex : GoodIn wsX3_send (va_wsS RX3 26 yX3_checkIndex wsX3_checkIndex) := goodIn_app (goodIn_of _ (by decide +kernel)) ggX3_send_X3_checkIndex
set_option maxRecDepth 20000 in
theorem ggX3_send_X2_coracleOf : GoodIn wsX3_send wsX2_coracleOf := goodIn_r _ [14, 15, 20, 21, 22, 23, 24, 25, 26, 27, 28, 29] (by decide +kernel) (by decide +kernel)
set_option maxRecDepth 20000 in
theorem gX3_send_X2_coracleOf : GoodIn wsX3_send (wsV RX3 58 RX2 yX2_coracleOf wsX2_coracleOf) := goodIn_app (goodIn_of _ (by decide +kernel)) ggX3_send_X2_coracleOf
theorem dX3_send_0 : decode cX3_send 0 = .ok (.iload_n 1, 1) := by decide +kernel
theorem dX3_send_1 : decode cX3_send 1 = .ok (.aload_n 0, 1) := by decide +kernel
theorem dX3_send_2 : decode cX3_send 2 = .ok (.getfield 19, 3) := by decide +kernel
theorem dX3_send_5 : decode cX3_send 5 = .ok (.getfield 48, 3) := by decide +kernel
theorem dX3_send_8 : decode cX3_send 8 = .ok (.invokestatic 26, 3) := by decide +kernel
theorem dX3_send_11 : decode cX3_send 11 = .ok (.iload_n 2, 1) := by decide +kernel
theorem dX3_send_12 : decode cX3_send 12 = .ok (.bipush 16, 2) := by decide +kernel
theorem dX3_send_14 : decode cX3_send 14 = .ok (.invokestatic 26, 3) := by decide +kernel
theorem dX3_send_17 : decode cX3_send 17 = .ok (.aload_n 0, 1) := by decide +kernel
theorem dX3_send_18 : decode cX3_send 18 = .ok (.getfield 19, 3) := by decide +kernel
theorem dX3_send_21 : decode cX3_send 21 = .ok (.iload_n 1, 1) := by decide +kernel
theorem dX3_send_22 : decode cX3_send 22 = .ok (.invokevirtual 58, 3) := by decide +kernel
theorem dX3_send_25 : decode cX3_send 25 = .ok (.astore_n 3, 1) := by decide +kernel
theorem dX3_send_26 : decode cX3_send 26 = .ok (.aload_n 3, 1) := by decide +kernel
theorem dX3_send_27 : decode cX3_send 27 = .ok (.getfield 71, 3) := by decide +kernel
theorem dX3_send_30 : decode cX3_send 30 = .ok (.istore 4, 2) := by decide +kernel
theorem dX3_send_32 : decode cX3_send 32 = .ok (.aload_n 3, 1) := by decide +kernel
theorem dX3_send_33 : decode cX3_send 33 = .ok (.iload_n 2, 1) := by decide +kernel
theorem dX3_send_34 : decode cX3_send 34 = .ok (.putfield 71, 3) := by decide +kernel
theorem dX3_send_37 : decode cX3_send 37 = .ok (.iload 4, 2) := by decide +kernel
theorem dX3_send_39 : decode cX3_send 39 = .ok (.ireturn, 1) := by decide +kernel
set_option maxRecDepth 20000 in
theorem ggX3_tar_X3_checkIndex : GoodIn wsX3_tar wsX3_checkIndex := goodIn_ca (goodIn_r _ [9, 10, 11] (by decide +kernel) (by decide +kernel)) (goodIn_sub (fun _ h => List.mem_cons_of_mem _ (List.mem_append_left _ (List.mem_append_right _ h))) (by decide +kernel))
set_option maxRecDepth 20000 in
theorem gX3_tar_X3_checkIndex : GoodIn wsX3_tar (va_wsS RX3 26 yX3_checkIndex wsX3_checkIndex) := goodIn_app (goodIn_of _ (by decide +kernel)) ggX3_tar_X3_checkIndex
set_option maxRecDepth 20000 in
theorem ggX3_tar_X2_coracleOf : GoodIn wsX3_tar wsX2_coracleOf := goodIn_r _ [16, 17, 34, 35, 36, 37, 38, 39, 40, 41, 42, 43] (by decide +kernel) (by decide +kernel)
set_option maxRecDepth 20000 in
theorem gX3_tar_X2_coracleOf : GoodIn wsX3_tar (wsV RX3 58 RX2 yX2_coracleOf wsX2_coracleOf) := goodIn_app (goodIn_of _ (by decide +kernel)) ggX3_tar_X2_coracleOf
set_option maxRecDepth 20000 in
theorem ggX3_tar_X0_isAfloatAt : GoodIn wsX3_tar wsX0_isAfloatAt := goodIn_r _ [22, 23, 24, 44, 45, 46, 47, 48, 49, 50, 51, 52, 53] (by decide +kernel) (by decide +kernel)
set_option maxRecDepth 20000 in
theorem gX3_tar_X0_isAfloatAt : GoodIn wsX3_tar (wsV RX3 74 RX0 yX0_isAfloatAt wsX0_isAfloatAt) := goodIn_app (goodIn_of _ (by decide +kernel)) ggX3_tar_X0_isAfloatAt
set_option maxRecDepth 20000 in
theorem ggX3_tar_X3_checkState : GoodIn wsX3_tar wsX3_checkState := goodIn_ca (goodIn_r _ [27, 28, 29] (by decide +kernel) (by decide +kernel)) (goodIn_sub (fun _ h => List.mem_cons_of_mem _ (List.mem_append_right _ h)) (by decide +kernel))
set_option maxRecDepth 20000 in
theorem gX3_tar_X3_checkState : GoodIn wsX3_tar (va_wsS RX3 41 yX3_checkState wsX3_checkState) := goodIn_app (goodIn_of _ (by decide +kernel)) ggX3_tar_X3_checkState
theorem dX3_tar_0 : decode cX3_tar 0 = .ok (.iload_n 1, 1) := by decide +kernel
theorem dX3_tar_1 : decode cX3_tar 1 = .ok (.aload_n 0, 1) := by decide +kernel
theorem dX3_tar_2 : decode cX3_tar 2 = .ok (.getfield 19, 3) := by decide +kernel
theorem dX3_tar_5 : decode cX3_tar 5 = .ok (.getfield 48, 3) := by decide +kernel
theorem dX3_tar_8 : decode cX3_tar 8 = .ok (.invokestatic 26, 3) := by decide +kernel
theorem dX3_tar_11 : decode cX3_tar 11 = .ok (.aload_n 0, 1) := by decide +kernel
theorem dX3_tar_12 : decode cX3_tar 12 = .ok (.getfield 19, 3) := by decide +kernel
theorem dX3_tar_15 : decode cX3_tar 15 = .ok (.iload_n 1, 1) := by decide +kernel
theorem dX3_tar_16 : decode cX3_tar 16 = .ok (.invokevirtual 58, 3) := by decide +kernel
theorem dX3_tar_19 : decode cX3_tar 19 = .ok (.astore_n 2, 1) := by decide +kernel
theorem dX3_tar_20 : decode cX3_tar 20 = .ok (.aload_n 2, 1) := by decide +kernel
theorem dX3_tar_21 : decode cX3_tar 21 = .ok (.iconst 0, 1) := by decide +kernel
theorem dX3_tar_22 : decode cX3_tar 22 = .ok (.invokevirtual 74, 3) := by decide +kernel
theorem dX3_tar_25 : decode cX3_tar 25 = .ok (.ifCond .eq 18, 3) := by decide +kernel
theorem dX3_tar_28 : decode cX3_tar 28 = .ok (.aload_n 0, 1) := by decide +kernel
theorem dX3_tar_29 : decode cX3_tar 29 = .ok (.getfield 19, 3) := by decide +kernel
theorem dX3_tar_32 : decode cX3_tar 32 = .ok (.getfield 37, 3) := by decide +kernel
theorem dX3_tar_35 : decode cX3_tar 35 = .ok (.iconst 3, 1) := by decide +kernel
theorem dX3_tar_36 : decode cX3_tar 36 = .ok (.if_icmp .lt 7, 3) := by decide +kernel
theorem dX3_tar_39 : decode cX3_tar 39 = .ok (.iconst 1, 1) := by decide +kernel
theorem dX3_tar_40 : decode cX3_tar 40 = .ok (.goto 4, 3) := by decide +kernel
theorem dX3_tar_43 : decode cX3_tar 43 = .ok (.iconst 0, 1) := by decide +kernel
theorem dX3_tar_44 : decode cX3_tar 44 = .ok (.invokestatic 41, 3) := by decide +kernel
theorem dX3_tar_47 : decode cX3_tar 47 = .ok (.aload_n 2, 1) := by decide +kernel
theorem dX3_tar_48 : decode cX3_tar 48 = .ok (.getfield 78, 3) := by decide +kernel
theorem dX3_tar_51 : decode cX3_tar 51 = .ok (.istore_n 3, 1) := by decide +kernel
theorem dX3_tar_52 : decode cX3_tar 52 = .ok (.aload_n 0, 1) := by decide +kernel
theorem dX3_tar_53 : decode cX3_tar 53 = .ok (.getfield 19, 3) := by decide +kernel
theorem dX3_tar_56 : decode cX3_tar 56 = .ok (.dup, 1) := by decide +kernel
theorem dX3_tar_57 : decode cX3_tar 57 = .ok (.getfield 37, 3) := by decide +kernel
theorem dX3_tar_60 : decode cX3_tar 60 = .ok (.iconst 3, 1) := by decide +kernel
theorem dX3_tar_61 : decode cX3_tar 61 = .ok (.isub, 1) := by decide +kernel
theorem dX3_tar_62 : decode cX3_tar 62 = .ok (.putfield 37, 3) := by decide +kernel
theorem dX3_tar_65 : decode cX3_tar 65 = .ok (.aload_n 2, 1) := by decide +kernel
theorem dX3_tar_66 : decode cX3_tar 66 = .ok (.bipush 30, 2) := by decide +kernel
theorem dX3_tar_68 : decode cX3_tar 68 = .ok (.putfield 81, 3) := by decide +kernel
theorem dX3_tar_71 : decode cX3_tar 71 = .ok (.aload_n 2, 1) := by decide +kernel
theorem dX3_tar_72 : decode cX3_tar 72 = .ok (.iconst 0, 1) := by decide +kernel
theorem dX3_tar_73 : decode cX3_tar 73 = .ok (.putfield 78, 3) := by decide +kernel
theorem dX3_tar_76 : decode cX3_tar 76 = .ok (.iload_n 3, 1) := by decide +kernel
theorem dX3_tar_77 : decode cX3_tar 77 = .ok (.ireturn, 1) := by decide +kernel
set_option maxRecDepth 20000 in
theorem ggX3_land_X3_checkIndex : GoodIn wsX3_land wsX3_checkIndex := goodIn_ca (goodIn_r _ [9, 10, 11] (by decide +kernel) (by decide +kernel)) (goodIn_sub (fun _ h => List.mem_cons_of_mem _ (List.mem_append_left _ (List.mem_append_right _ h))) (by decide +kernel))
set_option maxRecDepth 20000 in
theorem gX3_land_X3_checkIndex : GoodIn wsX3_land (va_wsS RX3 26 yX3_checkIndex wsX3_checkIndex) := goodIn_app (goodIn_of _ (by decide +kernel)) ggX3_land_X3_checkIndex
set_option maxRecDepth 20000 in
theorem ggX3_land_X2_coracleOf : GoodIn wsX3_land wsX2_coracleOf := goodIn_r _ [16, 17, 34, 35, 36, 37, 38, 39, 40, 41, 42, 43] (by decide +kernel) (by decide +kernel)
set_option maxRecDepth 20000 in
theorem gX3_land_X2_coracleOf : GoodIn wsX3_land (wsV RX3 58 RX2 yX2_coracleOf wsX2_coracleOf) := goodIn_app (goodIn_of _ (by decide +kernel)) ggX3_land_X2_coracleOf
set_option maxRecDepth 20000 in
theorem ggX3_land_X0_isAfloatAt : GoodIn wsX3_land wsX0_isAfloatAt := goodIn_r _ [22, 23, 24, 44, 45, 46, 47, 48, 49, 50, 51, 52, 53] (by decide +kernel) (by decide +kernel)
set_option maxRecDepth 20000 in
theorem gX3_land_X0_isAfloatAt : GoodIn wsX3_land (wsV RX3 74 RX0 yX0_isAfloatAt wsX0_isAfloatAt) := goodIn_app (goodIn_of _ (by decide +kernel)) ggX3_land_X0_isAfloatAt
set_option maxRecDepth 20000 in
theorem ggX3_land_X3_checkState : GoodIn wsX3_land wsX3_checkState := goodIn_ca (goodIn_r _ [27, 28, 29] (by decide +kernel) (by decide +kernel)) (goodIn_sub (fun _ h => List.mem_cons_of_mem _ (List.mem_append_right _ h)) (by decide +kernel))
set_option maxRecDepth 20000 in
theorem gX3_land_X3_checkState : GoodIn wsX3_land (va_wsS RX3 41 yX3_checkState wsX3_checkState) := goodIn_app (goodIn_of _ (by decide +kernel)) ggX3_land_X3_checkState
theorem dX3_land_0 : decode cX3_land 0 = .ok (.iload_n 1, 1) := by decide +kernel
theorem dX3_land_1 : decode cX3_land 1 = .ok (.aload_n 0, 1) := by decide +kernel
theorem dX3_land_2 : decode cX3_land 2 = .ok (.getfield 19, 3) := by decide +kernel
theorem dX3_land_5 : decode cX3_land 5 = .ok (.getfield 48, 3) := by decide +kernel
theorem dX3_land_8 : decode cX3_land 8 = .ok (.invokestatic 26, 3) := by decide +kernel
theorem dX3_land_11 : decode cX3_land 11 = .ok (.aload_n 0, 1) := by decide +kernel
theorem dX3_land_12 : decode cX3_land 12 = .ok (.getfield 19, 3) := by decide +kernel
theorem dX3_land_15 : decode cX3_land 15 = .ok (.iload_n 1, 1) := by decide +kernel
theorem dX3_land_16 : decode cX3_land 16 = .ok (.invokevirtual 58, 3) := by decide +kernel
theorem dX3_land_19 : decode cX3_land 19 = .ok (.astore_n 2, 1) := by decide +kernel
theorem dX3_land_20 : decode cX3_land 20 = .ok (.aload_n 2, 1) := by decide +kernel
theorem dX3_land_21 : decode cX3_land 21 = .ok (.iconst 0, 1) := by decide +kernel
theorem dX3_land_22 : decode cX3_land 22 = .ok (.invokevirtual 74, 3) := by decide +kernel
theorem dX3_land_25 : decode cX3_land 25 = .ok (.invokestatic 41, 3) := by decide +kernel
theorem dX3_land_28 : decode cX3_land 28 = .ok (.iconst 2, 1) := by decide +kernel
theorem dX3_land_29 : decode cX3_land 29 = .ok (.aload_n 2, 1) := by decide +kernel
theorem dX3_land_30 : decode cX3_land 30 = .ok (.getfield 84, 3) := by decide +kernel
theorem dX3_land_33 : decode cX3_land 33 = .ok (.imul, 1) := by decide +kernel
theorem dX3_land_34 : decode cX3_land 34 = .ok (.istore_n 3, 1) := by decide +kernel
theorem dX3_land_35 : decode cX3_land 35 = .ok (.aload_n 0, 1) := by decide +kernel
theorem dX3_land_36 : decode cX3_land 36 = .ok (.getfield 19, 3) := by decide +kernel
theorem dX3_land_39 : decode cX3_land 39 = .ok (.dup, 1) := by decide +kernel
theorem dX3_land_40 : decode cX3_land 40 = .ok (.getfield 37, 3) := by decide +kernel
theorem dX3_land_43 : decode cX3_land 43 = .ok (.iload_n 3, 1) := by decide +kernel
theorem dX3_land_44 : decode cX3_land 44 = .ok (.iadd, 1) := by decide +kernel
theorem dX3_land_45 : decode cX3_land 45 = .ok (.putfield 37, 3) := by decide +kernel
theorem dX3_land_48 : decode cX3_land 48 = .ok (.aload_n 0, 1) := by decide +kernel
theorem dX3_land_49 : decode cX3_land 49 = .ok (.getfield 19, 3) := by decide +kernel
theorem dX3_land_52 : decode cX3_land 52 = .ok (.dup, 1) := by decide +kernel
theorem dX3_land_53 : decode cX3_land 53 = .ok (.getfield 87, 3) := by decide +kernel
theorem dX3_land_56 : decode cX3_land 56 = .ok (.aload_n 2, 1) := by decide +kernel
theorem dX3_land_57 : decode cX3_land 57 = .ok (.getfield 84, 3) := by decide +kernel
theorem dX3_land_60 : decode cX3_land 60 = .ok (.iadd, 1) := by decide +kernel
theorem dX3_land_61 : decode cX3_land 61 = .ok (.putfield 87, 3) := by decide +kernel
theorem dX3_land_64 : decode cX3_land 64 = .ok (.aload_n 2, 1) := by decide +kernel
theorem dX3_land_65 : decode cX3_land 65 = .ok (.iconst 0, 1) := by decide +kernel
theorem dX3_land_66 : decode cX3_land 66 = .ok (.putfield 84, 3) := by decide +kernel
theorem dX3_land_69 : decode cX3_land 69 = .ok (.iload_n 3, 1) := by decide +kernel
theorem dX3_land_70 : decode cX3_land 70 = .ok (.ireturn, 1) := by decide +kernel
set_option maxRecDepth 20000 in
theorem ggX3_about_X3_checkIndex : GoodIn wsX3_about wsX3_checkIndex := goodIn_ca (goodIn_r _ [6, 7, 8] (by decide +kernel) (by decide +kernel)) (goodIn_sub (fun _ h => List.mem_cons_of_mem _ (List.mem_append_right _ h)) (by decide +kernel))
set_option maxRecDepth 20000 in
theorem gX3_about_X3_checkIndex : GoodIn wsX3_about (va_wsS RX3 26 yX3_checkIndex wsX3_checkIndex) := goodIn_app (goodIn_of _ (by decide +kernel)) ggX3_about_X3_checkIndex
set_option maxRecDepth 20000 in
theorem ggX3_about_X2_coracleOf : GoodIn wsX3_about wsX2_coracleOf := goodIn_r _ [13, 14, 34, 35, 36, 37, 38, 39, 40, 41, 42, 43] (by decide +kernel) (by decide +kernel)
set_option maxRecDepth 20000 in
theorem gX3_about_X2_coracleOf : GoodIn wsX3_about (wsV RX3 58 RX2 yX2_coracleOf wsX2_coracleOf) := goodIn_app (goodIn_of _ (by decide +kernel)) ggX3_about_X2_coracleOf
set_option maxRecDepth 20000 in
theorem ggX3_about_X0_tell : GoodIn wsX3_about wsX0_tell := goodIn_r _ [19, 20, 21, 22, 23, 24, 25, 26, 27, 28, 29, 44, 45, 46, 47, 48, 49, 50, 51, 52, 53] (by decide +kernel) (by decide +kernel)
set_option maxRecDepth 20000 in
theorem gX3_about_X0_tell : GoodIn wsX3_about (wsV RX3 90 RX0 yX0_tell wsX0_tell) := goodIn_app (goodIn_of _ (by decide +kernel)) ggX3_about_X0_tell
theorem dX3_about_0 : decode cX3_about 0 = .ok (.iload_n 1, 1) := by decide +kernel
theorem dX3_about_1 : decode cX3_about 1 = .ok (.aload_n 0, 1) := by decide +kernel
theorem dX3_about_2 : decode cX3_about 2 = .ok (.getfield 19, 3) := by decide +kernel
theorem dX3_about_5 : decode cX3_about 5 = .ok (.getfield 48, 3) := by decide +kernel
theorem dX3_about_8 : decode cX3_about 8 = .ok (.invokestatic 26, 3) := by decide +kernel
theorem dX3_about_11 : decode cX3_about 11 = .ok (.iload_n 2, 1) := by decide +kernel
theorem dX3_about_12 : decode cX3_about 12 = .ok (.bipush 10, 2) := by decide +kernel
theorem dX3_about_14 : decode cX3_about 14 = .ok (.invokestatic 26, 3) := by decide +kernel
theorem dX3_about_17 : decode cX3_about 17 = .ok (.aload_n 0, 1) := by decide +kernel
theorem dX3_about_18 : decode cX3_about 18 = .ok (.getfield 19, 3) := by decide +kernel
theorem dX3_about_21 : decode cX3_about 21 = .ok (.iload_n 1, 1) := by decide +kernel
theorem dX3_about_22 : decode cX3_about 22 = .ok (.invokevirtual 58, 3) := by decide +kernel
theorem dX3_about_25 : decode cX3_about 25 = .ok (.iload_n 2, 1) := by decide +kernel
theorem dX3_about_26 : decode cX3_about 26 = .ok (.invokevirtual 90, 3) := by decide +kernel
theorem dX3_about_29 : decode cX3_about 29 = .ok (.ireturn, 1) := by decide +kernel
set_option maxRecDepth 20000 in
theorem ggX3_told_X3_checkIndex : GoodIn wsX3_told wsX3_checkIndex := goodIn_ca (goodIn_r _ [6, 7, 8] (by decide +kernel) (by decide +kernel)) (goodIn_sub (fun _ h => List.mem_cons_of_mem _ (List.mem_append_right _ h)) (by decide +kernel))
set_option maxRecDepth 20000 in
theorem gX3_told_X3_checkIndex : GoodIn wsX3_told (va_wsS RX3 26 yX3_checkIndex wsX3_checkIndex) := goodIn_app (goodIn_of _ (by decide +kernel)) ggX3_told_X3_checkIndex
set_option maxRecDepth 20000 in
theorem ggX3_told_X2_tellOfNet : GoodIn wsX3_told wsX2_tellOfNet := goodIn_r _ [13, 14, 15, 16, 17, 18, 19, 12, 20, 21, 22, 23, 24, 25, 26, 27, 28, 29, 30, 31, 32, 33, 34, 35, 36, 37, 38, 39, 40, 41, 42, 43, 44, 45, 46, 47, 48, 49, 50, 51, 52, 53, 54, 55, 56, 57, 58, 59, 74, 75, 76, 64, 65, 66, 67, 68, 69, 70, 71, 72, 73, 77, 78, 79, 80, 81, 82, 83, 84, 85, 86] (by decide +kernel) (by decide +kernel)
set_option maxRecDepth 20000 in
theorem gX3_told_X2_tellOfNet : GoodIn wsX3_told (wsV RX3 97 RX2 yX2_tellOfNet wsX2_tellOfNet) := goodIn_app (goodIn_of _ (by decide +kernel)) ggX3_told_X2_tellOfNet
theorem dX3_told_0 : decode cX3_told 0 = .ok (.iload_n 1, 1) := by decide +kernel
theorem dX3_told_1 : decode cX3_told 1 = .ok (.aload_n 0, 1) := by decide +kernel
theorem dX3_told_2 : decode cX3_told 2 = .ok (.getfield 19, 3) := by decide +kernel
theorem dX3_told_5 : decode cX3_told 5 = .ok (.getfield 94, 3) := by decide +kernel
theorem dX3_told_8 : decode cX3_told 8 = .ok (.invokestatic 26, 3) := by decide +kernel
theorem dX3_told_11 : decode cX3_told 11 = .ok (.iload_n 2, 1) := by decide +kernel
theorem dX3_told_12 : decode cX3_told 12 = .ok (.iconst 4, 1) := by decide +kernel
theorem dX3_told_13 : decode cX3_told 13 = .ok (.invokestatic 26, 3) := by decide +kernel
theorem dX3_told_16 : decode cX3_told 16 = .ok (.aload_n 0, 1) := by decide +kernel
theorem dX3_told_17 : decode cX3_told 17 = .ok (.getfield 19, 3) := by decide +kernel
theorem dX3_told_20 : decode cX3_told 20 = .ok (.iload_n 1, 1) := by decide +kernel
theorem dX3_told_21 : decode cX3_told 21 = .ok (.iload_n 2, 1) := by decide +kernel
theorem dX3_told_22 : decode cX3_told 22 = .ok (.invokevirtual 97, 3) := by decide +kernel
theorem dX3_told_25 : decode cX3_told 25 = .ok (.ireturn, 1) := by decide +kernel
set_option maxRecDepth 20000 in
theorem ggX3_reach_X3_checkIndex : GoodIn wsX3_reach wsX3_checkIndex := goodIn_ca (goodIn_r _ [5, 6, 7] (by decide +kernel) (by decide +kernel)) (goodIn_sub (fun _ h => List.mem_cons_of_mem _ (List.mem_append_right _ h)) (by decide +kernel))
set_option maxRecDepth 20000 in
theorem gX3_reach_X3_checkIndex : GoodIn wsX3_reach (va_wsS RX3 26 yX3_checkIndex wsX3_checkIndex) := goodIn_app (goodIn_of _ (by decide +kernel)) ggX3_reach_X3_checkIndex
set_option maxRecDepth 20000 in
theorem ggX3_reach_X2_tellOfReach : GoodIn wsX3_reach wsX2_tellOfReach := goodIn_r _ [12, 13, 14, 15, 11, 16, 17, 18, 19, 20, 21, 22, 23, 24, 25, 26, 27, 28, 29, 34, 35, 36, 37, 38, 39, 40, 41, 42, 43, 44, 45, 46, 47, 48, 49, 50, 51, 52, 53] (by decide +kernel) (by decide +kernel)
set_option maxRecDepth 20000 in
theorem gX3_reach_X2_tellOfReach : GoodIn wsX3_reach (wsV RX3 100 RX2 yX2_tellOfReach wsX2_tellOfReach) := goodIn_app (goodIn_of _ (by decide +kernel)) ggX3_reach_X2_tellOfReach
theorem dX3_reach_0 : decode cX3_reach 0 = .ok (.iload_n 1, 1) := by decide +kernel
theorem dX3_reach_1 : decode cX3_reach 1 = .ok (.bipush 16, 2) := by decide +kernel
theorem dX3_reach_3 : decode cX3_reach 3 = .ok (.invokestatic 26, 3) := by decide +kernel
theorem dX3_reach_6 : decode cX3_reach 6 = .ok (.iload_n 2, 1) := by decide +kernel
theorem dX3_reach_7 : decode cX3_reach 7 = .ok (.iconst 2, 1) := by decide +kernel
theorem dX3_reach_8 : decode cX3_reach 8 = .ok (.invokestatic 26, 3) := by decide +kernel
theorem dX3_reach_11 : decode cX3_reach 11 = .ok (.aload_n 0, 1) := by decide +kernel
theorem dX3_reach_12 : decode cX3_reach 12 = .ok (.getfield 19, 3) := by decide +kernel
theorem dX3_reach_15 : decode cX3_reach 15 = .ok (.iload_n 1, 1) := by decide +kernel
theorem dX3_reach_16 : decode cX3_reach 16 = .ok (.iload_n 2, 1) := by decide +kernel
theorem dX3_reach_17 : decode cX3_reach 17 = .ok (.invokevirtual 100, 3) := by decide +kernel
theorem dX3_reach_20 : decode cX3_reach 20 = .ok (.ireturn, 1) := by decide +kernel
set_option maxRecDepth 20000 in
theorem ggX3_count_X3_checkIndex : GoodIn wsX3_count wsX3_checkIndex := goodIn_ca (goodIn_r _ [5, 6, 7] (by decide +kernel) (by decide +kernel)) (goodIn_sub (fun _ h => List.mem_cons_of_mem _ (List.mem_append_right _ h)) (by decide +kernel))
set_option maxRecDepth 20000 in
theorem gX3_count_X3_checkIndex : GoodIn wsX3_count (va_wsS RX3 26 yX3_checkIndex wsX3_checkIndex) := goodIn_app (goodIn_of _ (by decide +kernel)) ggX3_count_X3_checkIndex
set_option maxRecDepth 20000 in
theorem ggX3_count_X2_tellCount : GoodIn wsX3_count wsX2_tellCount := goodIn_r _ [12, 13, 14, 15, 16, 17, 18, 19, 20, 21, 22, 11, 23, 24, 25, 26, 27, 28, 29, 30, 31, 32, 33, 34, 35, 40, 41, 42, 43, 44, 45, 46, 47, 48, 49, 50, 51, 52, 53, 54, 55, 56, 57, 58, 59] (by decide +kernel) (by decide +kernel)
set_option maxRecDepth 20000 in
theorem gX3_count_X2_tellCount : GoodIn wsX3_count (wsV RX3 103 RX2 yX2_tellCount wsX2_tellCount) := goodIn_app (goodIn_of _ (by decide +kernel)) ggX3_count_X2_tellCount
theorem dX3_count_0 : decode cX3_count 0 = .ok (.iload_n 1, 1) := by decide +kernel
theorem dX3_count_1 : decode cX3_count 1 = .ok (.bipush 13, 2) := by decide +kernel
theorem dX3_count_3 : decode cX3_count 3 = .ok (.invokestatic 26, 3) := by decide +kernel
theorem dX3_count_6 : decode cX3_count 6 = .ok (.aload_n 0, 1) := by decide +kernel
theorem dX3_count_7 : decode cX3_count 7 = .ok (.getfield 19, 3) := by decide +kernel
theorem dX3_count_10 : decode cX3_count 10 = .ok (.iload_n 1, 1) := by decide +kernel
theorem dX3_count_11 : decode cX3_count 11 = .ok (.invokevirtual 103, 3) := by decide +kernel
theorem dX3_count_14 : decode cX3_count 14 = .ok (.ireturn, 1) := by decide +kernel
set_option maxRecDepth 20000 in
theorem ggX3_pass_X3_checkArgument : GoodIn wsX3_pass wsX3_checkArgument := goodIn_ca (goodIn_r _ [5, 6, 7] (by decide +kernel) (by decide +kernel)) (goodIn_sub (fun _ h => List.mem_cons_of_mem _ (List.mem_append_right _ h)) (by decide +kernel))
set_option maxRecDepth 20000 in
theorem gX3_pass_X3_checkArgument : GoodIn wsX3_pass (va_wsS RX3 30 yX3_checkArgument wsX3_checkArgument) := goodIn_app (goodIn_of _ (by decide +kernel)) ggX3_pass_X3_checkArgument
set_option maxRecDepth 20000 in
theorem ggX3_pass_X3_letHoursPass : GoodIn wsX3_pass wsX3_letHoursPass := goodIn_r _ [11, 12, 13, 14, 15, 16, 17, 18, 19, 20, 21, 22, 23, 24, 25, 26, 27, 28, 29, 30, 31, 32, 33, 34, 35, 36, 37, 38, 39, 40, 41, 42, 43, 44, 45, 46, 47, 48, 49, 50, 51, 52, 53, 54, 55, 56, 57, 58, 59, 60, 61, 62, 63, 64, 65, 66, 67, 68, 69, 70, 71, 72, 73, 74, 75, 76, 77, 78, 79, 80, 81, 82, 83, 84, 85, 86, 87, 88, 89, 90, 91, 92, 93, 94, 95, 96, 97, 98, 99, 100, 101, 102, 103, 104, 105, 106, 107, 108, 109, 110, 111, 112, 113, 114, 115, 116, 121, 122, 123, 124, 125, 126, 127, 128, 129, 130, 117, 118, 119, 120, 131, 132, 133, 134, 135, 136, 137, 138, 139, 140, 141, 142, 143] (by decide +kernel) (by decide +kernel)
set_option maxRecDepth 20000 in
theorem gX3_pass_X3_letHoursPass : GoodIn wsX3_pass (wsV RX3 106 RX3 yX3_letHoursPass wsX3_letHoursPass) := goodIn_app (goodIn_of _ (by decide +kernel)) ggX3_pass_X3_letHoursPass
theorem dX3_pass_0 : decode cX3_pass 0 = .ok (.iload_n 1, 1) := by decide +kernel
theorem dX3_pass_1 : decode cX3_pass 1 = .ok (.iconst 1, 1) := by decide +kernel
theorem dX3_pass_2 : decode cX3_pass 2 = .ok (.bipush 40, 2) := by decide +kernel
theorem dX3_pass_4 : decode cX3_pass 4 = .ok (.invokestatic 30, 3) := by decide +kernel
theorem dX3_pass_7 : decode cX3_pass 7 = .ok (.aload_n 0, 1) := by decide +kernel
theorem dX3_pass_8 : decode cX3_pass 8 = .ok (.aload_n 0, 1) := by decide +kernel
theorem dX3_pass_9 : decode cX3_pass 9 = .ok (.getfield 19, 3) := by decide +kernel
theorem dX3_pass_12 : decode cX3_pass 12 = .ok (.iload_n 1, 1) := by decide +kernel
theorem dX3_pass_13 : decode cX3_pass 13 = .ok (.invokevirtual 106, 3) := by decide +kernel
theorem dX3_pass_16 : decode cX3_pass 16 = .ok (.ireturn, 1) := by decide +kernel
set_option maxRecDepth 20000 in
theorem ggX3_meets_X3_checkIndex : GoodIn wsX3_meets wsX3_checkIndex := goodIn_ca (goodIn_r _ [7, 8, 9] (by decide +kernel) (by decide +kernel)) (goodIn_sub (fun _ h => List.mem_cons_of_mem _ (List.mem_append_right _ h)) (by decide +kernel))
set_option maxRecDepth 20000 in
theorem gX3_meets_X3_checkIndex : GoodIn wsX3_meets (va_wsS RX3 26 yX3_checkIndex wsX3_checkIndex) := goodIn_app (goodIn_of _ (by decide +kernel)) ggX3_meets_X3_checkIndex
set_option maxRecDepth 20000 in
theorem ggX3_meets_X2_becomeLike : GoodIn wsX3_meets wsX2_becomeLike := goodIn_r _ [14, 15, 16, 17, 18, 19, 20, 21, 22, 23, 24, 25, 26, 27, 28, 29, 30, 31, 32, 33, 34, 35, 36, 37, 38, 39, 40, 41, 42, 43, 44, 45, 46, 47, 48, 49, 50, 51, 150, 151, 152, 153, 154, 155, 156, 157, 158, 159, 160, 161, 162, 163, 164, 165, 166, 167, 168, 169, 170, 171, 172] (by decide +kernel) (by decide +kernel)
set_option maxRecDepth 20000 in
theorem gX3_meets_X2_becomeLike : GoodIn wsX3_meets (wsV RX3 110 RX2 yX2_becomeLike wsX2_becomeLike) := goodIn_app (goodIn_of _ (by decide +kernel)) ggX3_meets_X2_becomeLike
set_option maxRecDepth 20000 in
theorem ggX3_meets_X2_netOf : GoodIn wsX3_meets wsX2_netOf := goodIn_r _ [55, 16, 150, 151, 152, 153, 154, 155, 156, 157, 158, 159] (by decide +kernel) (by decide +kernel)
set_option maxRecDepth 20000 in
theorem gX3_meets_X2_netOf : GoodIn wsX3_meets (wsV RX3 114 RX2 yX2_netOf wsX2_netOf) := goodIn_app (goodIn_of _ (by decide +kernel)) ggX3_meets_X2_netOf
set_option maxRecDepth 20000 in
theorem ggX3_meets_X2_isTogether : GoodIn wsX3_meets wsX2_isTogether := goodIn_r _ [59, 60, 61, 62, 63, 64, 65, 66, 13, 67, 15, 68, 69, 70, 32, 71, 42, 37, 170, 171, 172, 160, 161, 162, 163, 164, 165, 166, 167, 168, 169, 150, 151, 152, 153, 154, 155, 156, 157, 158, 159] (by decide +kernel) (by decide +kernel)
set_option maxRecDepth 20000 in
theorem gX3_meets_X2_isTogether : GoodIn wsX3_meets (wsV RX3 118 RX2 yX2_isTogether wsX2_isTogether) := goodIn_app (goodIn_of _ (by decide +kernel)) ggX3_meets_X2_isTogether
set_option maxRecDepth 20000 in
theorem ggX3_meets_X3_letHoursPass : GoodIn wsX3_meets wsX3_letHoursPass := goodIn_r _ [75, 76, 77, 78, 79, 80, 81, 82, 83, 84, 85, 13, 86, 26, 23, 17, 87, 88, 89, 90, 91, 92, 93, 94, 15, 62, 95, 96, 97, 32, 98, 37, 99, 38, 36, 100, 101, 102, 103, 53, 54, 55, 16, 104, 105, 106, 107, 60, 61, 108, 63, 109, 110, 64, 65, 66, 67, 111, 112, 113, 114, 115, 116, 57, 58, 59, 68, 69, 70, 71, 42, 117, 118, 119, 120, 34, 41, 121, 122, 123, 124, 125, 126, 127, 128, 129, 130, 131, 132, 133, 134, 135, 136, 39, 40, 137, 138, 139, 140, 35, 141, 142, 143, 144, 145, 28, 150, 151, 152, 153, 154, 155, 156, 157, 158, 159, 146, 147, 148, 149, 160, 161, 162, 163, 164, 165, 166, 167, 168, 169, 170, 171, 172] (by decide +kernel) (by decide +kernel)
set_option maxRecDepth 20000 in
theorem gX3_meets_X3_letHoursPass : GoodIn wsX3_meets (wsV RX3 106 RX3 yX3_letHoursPass wsX3_letHoursPass) := goodIn_app (goodIn_of _ (by decide +kernel)) ggX3_meets_X3_letHoursPass
theorem dX3_meets_0 : decode cX3_meets 0 = .ok (.iload_n 1, 1) := by decide +kernel
theorem dX3_meets_1 : decode cX3_meets 1 = .ok (.aload_n 0, 1) := by decide +kernel
theorem dX3_meets_2 : decode cX3_meets 2 = .ok (.getfield 19, 3) := by decide +kernel
theorem dX3_meets_5 : decode cX3_meets 5 = .ok (.getfield 94, 3) := by decide +kernel
theorem dX3_meets_8 : decode cX3_meets 8 = .ok (.invokestatic 26, 3) := by decide +kernel
theorem dX3_meets_11 : decode cX3_meets 11 = .ok (.aload_n 0, 1) := by decide +kernel
theorem dX3_meets_12 : decode cX3_meets 12 = .ok (.getfield 23, 3) := by decide +kernel
theorem dX3_meets_15 : decode cX3_meets 15 = .ok (.aload_n 0, 1) := by decide +kernel
theorem dX3_meets_16 : decode cX3_meets 16 = .ok (.getfield 19, 3) := by decide +kernel
theorem dX3_meets_19 : decode cX3_meets 19 = .ok (.invokevirtual 110, 3) := by decide +kernel
theorem dX3_meets_22 : decode cX3_meets 22 = .ok (.iconst 0, 1) := by decide +kernel
theorem dX3_meets_23 : decode cX3_meets 23 = .ok (.istore_n 2, 1) := by decide +kernel
theorem dX3_meets_24 : decode cX3_meets 24 = .ok (.iload_n 2, 1) := by decide +kernel
theorem dX3_meets_25 : decode cX3_meets 25 = .ok (.bipush 90, 2) := by decide +kernel
theorem dX3_meets_27 : decode cX3_meets 27 = .ok (.if_icmp .gt 39, 3) := by decide +kernel
theorem dX3_meets_30 : decode cX3_meets 30 = .ok (.aload_n 0, 1) := by decide +kernel
theorem dX3_meets_31 : decode cX3_meets 31 = .ok (.getfield 23, 3) := by decide +kernel
theorem dX3_meets_34 : decode cX3_meets 34 = .ok (.aload_n 0, 1) := by decide +kernel
theorem dX3_meets_35 : decode cX3_meets 35 = .ok (.getfield 23, 3) := by decide +kernel
theorem dX3_meets_38 : decode cX3_meets 38 = .ok (.iload_n 1, 1) := by decide +kernel
theorem dX3_meets_39 : decode cX3_meets 39 = .ok (.invokevirtual 114, 3) := by decide +kernel
theorem dX3_meets_42 : decode cX3_meets 42 = .ok (.invokevirtual 118, 3) := by decide +kernel
theorem dX3_meets_45 : decode cX3_meets 45 = .ok (.ifCond .eq 5, 3) := by decide +kernel
theorem dX3_meets_48 : decode cX3_meets 48 = .ok (.iload_n 2, 1) := by decide +kernel
theorem dX3_meets_49 : decode cX3_meets 49 = .ok (.ireturn, 1) := by decide +kernel
theorem dX3_meets_50 : decode cX3_meets 50 = .ok (.aload_n 0, 1) := by decide +kernel
theorem dX3_meets_51 : decode cX3_meets 51 = .ok (.aload_n 0, 1) := by decide +kernel
theorem dX3_meets_52 : decode cX3_meets 52 = .ok (.getfield 23, 3) := by decide +kernel
theorem dX3_meets_55 : decode cX3_meets 55 = .ok (.iconst 1, 1) := by decide +kernel
theorem dX3_meets_56 : decode cX3_meets 56 = .ok (.invokevirtual 106, 3) := by decide +kernel
theorem dX3_meets_59 : decode cX3_meets 59 = .ok (.pop, 1) := by decide +kernel
theorem dX3_meets_60 : decode cX3_meets 60 = .ok (.iinc 2 1, 3) := by decide +kernel
theorem dX3_meets_63 : decode cX3_meets 63 = .ok (.goto (-39), 3) := by decide +kernel
theorem dX3_meets_66 : decode cX3_meets 66 = .ok (.iconst (-1), 1) := by decide +kernel
theorem dX3_meets_67 : decode cX3_meets 67 = .ok (.ireturn, 1) := by decide +kernel
set_option maxRecDepth 20000 in
theorem ggX3_sinks_X3_checkIndex : GoodIn wsX3_sinks wsX3_checkIndex := goodIn_ca (goodIn_r _ [8, 9, 10] (by decide +kernel) (by decide +kernel)) (goodIn_sub (fun _ h => List.mem_cons_of_mem _ (List.mem_append_right _ h)) (by decide +kernel))
set_option maxRecDepth 20000 in
theorem gX3_sinks_X3_checkIndex : GoodIn wsX3_sinks (va_wsS RX3 26 yX3_checkIndex wsX3_checkIndex) := goodIn_app (goodIn_of _ (by decide +kernel)) ggX3_sinks_X3_checkIndex
set_option maxRecDepth 20000 in
theorem ggX3_sinks_X2_becomeLike : GoodIn wsX3_sinks wsX2_becomeLike := goodIn_r _ [15, 16, 17, 18, 19, 20, 21, 22, 23, 24, 25, 26, 27, 28, 29, 30, 31, 32, 33, 34, 35, 36, 37, 38, 39, 40, 41, 42, 43, 44, 45, 46, 47, 48, 49, 50, 51, 52, 150, 151, 152, 153, 154, 155, 156, 157, 158, 159, 160, 161, 162, 163, 164, 165, 166, 167, 168, 169, 170, 171, 172] (by decide +kernel) (by decide +kernel)
set_option maxRecDepth 20000 in
theorem gX3_sinks_X2_becomeLike : GoodIn wsX3_sinks (wsV RX3 110 RX2 yX2_becomeLike wsX2_becomeLike) := goodIn_app (goodIn_of _ (by decide +kernel)) ggX3_sinks_X2_becomeLike
set_option maxRecDepth 20000 in
theorem ggX3_sinks_X2_coracleOf : GoodIn wsX3_sinks wsX2_coracleOf := goodIn_r _ [56, 16, 150, 151, 152, 153, 154, 155, 156, 157, 158, 159] (by decide +kernel) (by decide +kernel)
set_option maxRecDepth 20000 in
theorem gX3_sinks_X2_coracleOf : GoodIn wsX3_sinks (wsV RX3 58 RX2 yX2_coracleOf wsX2_coracleOf) := goodIn_app (goodIn_of _ (by decide +kernel)) ggX3_sinks_X2_coracleOf
set_option maxRecDepth 20000 in
theorem ggX3_sinks_X3_letHoursPass : GoodIn wsX3_sinks wsX3_letHoursPass := goodIn_r _ [60, 61, 62, 63, 64, 65, 66, 67, 68, 69, 70, 14, 71, 27, 24, 18, 72, 73, 74, 75, 76, 77, 78, 79, 16, 80, 81, 82, 83, 33, 84, 38, 85, 39, 37, 86, 87, 88, 89, 90, 91, 92, 17, 93, 94, 95, 96, 97, 98, 99, 100, 101, 102, 103, 54, 55, 56, 104, 105, 106, 107, 108, 109, 110, 111, 112, 113, 114, 115, 116, 43, 117, 118, 119, 120, 35, 42, 121, 122, 123, 124, 125, 126, 127, 128, 129, 130, 131, 132, 133, 134, 135, 136, 40, 41, 137, 138, 139, 140, 36, 141, 142, 143, 144, 145, 29, 150, 151, 152, 153, 154, 155, 156, 157, 158, 159, 146, 147, 148, 149, 160, 161, 162, 163, 164, 165, 166, 167, 168, 169, 170, 171, 172] (by decide +kernel) (by decide +kernel)
set_option maxRecDepth 20000 in
theorem gX3_sinks_X3_letHoursPass : GoodIn wsX3_sinks (wsV RX3 106 RX3 yX3_letHoursPass wsX3_letHoursPass) := goodIn_app (goodIn_of _ (by decide +kernel)) ggX3_sinks_X3_letHoursPass
theorem dX3_sinks_0 : decode cX3_sinks 0 = .ok (.iload_n 1, 1) := by decide +kernel
theorem dX3_sinks_1 : decode cX3_sinks 1 = .ok (.aload_n 0, 1) := by decide +kernel
theorem dX3_sinks_2 : decode cX3_sinks 2 = .ok (.getfield 19, 3) := by decide +kernel
theorem dX3_sinks_5 : decode cX3_sinks 5 = .ok (.getfield 48, 3) := by decide +kernel
theorem dX3_sinks_8 : decode cX3_sinks 8 = .ok (.invokestatic 26, 3) := by decide +kernel
theorem dX3_sinks_11 : decode cX3_sinks 11 = .ok (.aload_n 0, 1) := by decide +kernel
theorem dX3_sinks_12 : decode cX3_sinks 12 = .ok (.getfield 23, 3) := by decide +kernel
theorem dX3_sinks_15 : decode cX3_sinks 15 = .ok (.aload_n 0, 1) := by decide +kernel
theorem dX3_sinks_16 : decode cX3_sinks 16 = .ok (.getfield 19, 3) := by decide +kernel
theorem dX3_sinks_19 : decode cX3_sinks 19 = .ok (.invokevirtual 110, 3) := by decide +kernel
theorem dX3_sinks_22 : decode cX3_sinks 22 = .ok (.iconst 0, 1) := by decide +kernel
theorem dX3_sinks_23 : decode cX3_sinks 23 = .ok (.istore_n 2, 1) := by decide +kernel
theorem dX3_sinks_24 : decode cX3_sinks 24 = .ok (.iload_n 2, 1) := by decide +kernel
theorem dX3_sinks_25 : decode cX3_sinks 25 = .ok (.bipush 90, 2) := by decide +kernel
theorem dX3_sinks_27 : decode cX3_sinks 27 = .ok (.if_icmp .gt 35, 3) := by decide +kernel
theorem dX3_sinks_30 : decode cX3_sinks 30 = .ok (.aload_n 0, 1) := by decide +kernel
theorem dX3_sinks_31 : decode cX3_sinks 31 = .ok (.getfield 23, 3) := by decide +kernel
theorem dX3_sinks_34 : decode cX3_sinks 34 = .ok (.iload_n 1, 1) := by decide +kernel
theorem dX3_sinks_35 : decode cX3_sinks 35 = .ok (.invokevirtual 58, 3) := by decide +kernel
theorem dX3_sinks_38 : decode cX3_sinks 38 = .ok (.getfield 122, 3) := by decide +kernel
theorem dX3_sinks_41 : decode cX3_sinks 41 = .ok (.ifCond .ne 5, 3) := by decide +kernel
theorem dX3_sinks_44 : decode cX3_sinks 44 = .ok (.iload_n 2, 1) := by decide +kernel
theorem dX3_sinks_45 : decode cX3_sinks 45 = .ok (.ireturn, 1) := by decide +kernel
theorem dX3_sinks_46 : decode cX3_sinks 46 = .ok (.aload_n 0, 1) := by decide +kernel
theorem dX3_sinks_47 : decode cX3_sinks 47 = .ok (.aload_n 0, 1) := by decide +kernel
theorem dX3_sinks_48 : decode cX3_sinks 48 = .ok (.getfield 23, 3) := by decide +kernel
theorem dX3_sinks_51 : decode cX3_sinks 51 = .ok (.iconst 1, 1) := by decide +kernel
theorem dX3_sinks_52 : decode cX3_sinks 52 = .ok (.invokevirtual 106, 3) := by decide +kernel
theorem dX3_sinks_55 : decode cX3_sinks 55 = .ok (.pop, 1) := by decide +kernel
theorem dX3_sinks_56 : decode cX3_sinks 56 = .ok (.iinc 2 1, 3) := by decide +kernel
theorem dX3_sinks_59 : decode cX3_sinks 59 = .ok (.goto (-35), 3) := by decide +kernel
theorem dX3_sinks_62 : decode cX3_sinks 62 = .ok (.iconst (-1), 1) := by decide +kernel
theorem dX3_sinks_63 : decode cX3_sinks 63 = .ok (.ireturn, 1) := by decide +kernel
set_option maxRecDepth 20000 in
theorem ggX3_foresee_X3_checkArgument : GoodIn wsX3_foresee wsX3_checkArgument := goodIn_ca (goodIn_r _ [6, 7, 8] (by decide +kernel) (by decide +kernel)) (goodIn_sub (fun _ h => List.mem_cons_of_mem _ (List.mem_append_left _ (List.mem_append_right _ h))) (by decide +kernel))
set_option maxRecDepth 20000 in
theorem gX3_foresee_X3_checkArgument : GoodIn wsX3_foresee (va_wsS RX3 30 yX3_checkArgument wsX3_checkArgument) := goodIn_app (goodIn_of _ (by decide +kernel)) ggX3_foresee_X3_checkArgument
set_option maxRecDepth 20000 in
theorem ggX3_foresee_X3_checkIndex : GoodIn wsX3_foresee wsX3_checkIndex := goodIn_ca (goodIn_r _ [11, 12, 13] (by decide +kernel) (by decide +kernel)) (goodIn_sub (fun _ h => List.mem_cons_of_mem _ (List.mem_append_right _ h)) (by decide +kernel))
set_option maxRecDepth 20000 in
theorem gX3_foresee_X3_checkIndex : GoodIn wsX3_foresee (va_wsS RX3 26 yX3_checkIndex wsX3_checkIndex) := goodIn_app (goodIn_of _ (by decide +kernel)) ggX3_foresee_X3_checkIndex
set_option maxRecDepth 20000 in
theorem ggX3_foresee_X2_becomeLike : GoodIn wsX3_foresee wsX2_becomeLike := goodIn_r _ [18, 19, 20, 21, 22, 23, 24, 25, 26, 27, 28, 29, 30, 31, 32, 33, 34, 35, 36, 37, 38, 39, 40, 41, 42, 43, 44, 45, 46, 47, 48, 49, 50, 51, 52, 53, 54, 55, 168, 169, 170, 171, 172, 173, 174, 175, 176, 177, 178, 179, 180, 181, 182, 183, 184, 185, 186, 187, 188, 189, 190] (by decide +kernel) (by decide +kernel)
set_option maxRecDepth 20000 in
theorem gX3_foresee_X2_becomeLike : GoodIn wsX3_foresee (wsV RX3 110 RX2 yX2_becomeLike wsX2_becomeLike) := goodIn_app (goodIn_of _ (by decide +kernel)) ggX3_foresee_X2_becomeLike
set_option maxRecDepth 20000 in
theorem ggX3_foresee_X3_letHoursPass : GoodIn wsX3_foresee wsX3_letHoursPass := goodIn_r _ [59, 60, 61, 62, 63, 64, 65, 66, 67, 68, 69, 17, 70, 30, 27, 21, 71, 72, 73, 74, 75, 76, 77, 78, 19, 79, 80, 81, 82, 36, 83, 41, 84, 42, 40, 85, 86, 87, 88, 89, 90, 91, 20, 92, 93, 94, 95, 96, 97, 98, 99, 100, 101, 102, 103, 104, 105, 106, 107, 108, 109, 110, 111, 112, 113, 114, 115, 116, 117, 118, 46, 119, 120, 121, 122, 38, 45, 123, 124, 125, 126, 127, 128, 129, 130, 131, 132, 133, 134, 135, 136, 137, 138, 43, 44, 139, 140, 141, 142, 39, 143, 144, 145, 146, 147, 32, 168, 169, 170, 171, 172, 173, 174, 175, 176, 177, 164, 165, 166, 167, 178, 179, 180, 181, 182, 183, 184, 185, 186, 187, 188, 189, 190] (by decide +kernel) (by decide +kernel)
set_option maxRecDepth 20000 in
theorem gX3_foresee_X3_letHoursPass : GoodIn wsX3_foresee (wsV RX3 106 RX3 yX3_letHoursPass wsX3_letHoursPass) := goodIn_app (goodIn_of _ (by decide +kernel)) ggX3_foresee_X3_letHoursPass
set_option maxRecDepth 20000 in
theorem ggX3_foresee_X2_tellCount : GoodIn wsX3_foresee wsX2_tellCount := goodIn_r _ [151, 27, 28, 26, 29, 30, 31, 32, 152, 153, 154, 17, 155, 19, 79, 156, 157, 158, 159, 100, 160, 161, 162, 163, 21, 168, 169, 170, 171, 172, 173, 174, 175, 176, 177, 178, 179, 180, 181, 182, 183, 184, 185, 186, 187] (by decide +kernel) (by decide +kernel)
set_option maxRecDepth 20000 in
theorem gX3_foresee_X2_tellCount : GoodIn wsX3_foresee (wsV RX3 103 RX2 yX2_tellCount wsX2_tellCount) := goodIn_app (goodIn_of _ (by decide +kernel)) ggX3_foresee_X2_tellCount
theorem dX3_foresee_0 : decode cX3_foresee 0 = .ok (.iload_n 1, 1) := by decide +kernel
theorem dX3_foresee_1 : decode cX3_foresee 1 = .ok (.iconst 1, 1) := by decide +kernel
theorem dX3_foresee_2 : decode cX3_foresee 2 = .ok (.bipush 40, 2) := by decide +kernel
theorem dX3_foresee_4 : decode cX3_foresee 4 = .ok (.invokestatic 30, 3) := by decide +kernel
theorem dX3_foresee_7 : decode cX3_foresee 7 = .ok (.iload_n 2, 1) := by decide +kernel
theorem dX3_foresee_8 : decode cX3_foresee 8 = .ok (.bipush 13, 2) := by decide +kernel
theorem dX3_foresee_10 : decode cX3_foresee 10 = .ok (.invokestatic 26, 3) := by decide +kernel
theorem dX3_foresee_13 : decode cX3_foresee 13 = .ok (.aload_n 0, 1) := by decide +kernel
theorem dX3_foresee_14 : decode cX3_foresee 14 = .ok (.getfield 23, 3) := by decide +kernel
theorem dX3_foresee_17 : decode cX3_foresee 17 = .ok (.aload_n 0, 1) := by decide +kernel
theorem dX3_foresee_18 : decode cX3_foresee 18 = .ok (.getfield 19, 3) := by decide +kernel
theorem dX3_foresee_21 : decode cX3_foresee 21 = .ok (.invokevirtual 110, 3) := by decide +kernel
theorem dX3_foresee_24 : decode cX3_foresee 24 = .ok (.aload_n 0, 1) := by decide +kernel
theorem dX3_foresee_25 : decode cX3_foresee 25 = .ok (.aload_n 0, 1) := by decide +kernel
theorem dX3_foresee_26 : decode cX3_foresee 26 = .ok (.getfield 23, 3) := by decide +kernel
theorem dX3_foresee_29 : decode cX3_foresee 29 = .ok (.iload_n 1, 1) := by decide +kernel
theorem dX3_foresee_30 : decode cX3_foresee 30 = .ok (.invokevirtual 106, 3) := by decide +kernel
theorem dX3_foresee_33 : decode cX3_foresee 33 = .ok (.pop, 1) := by decide +kernel
theorem dX3_foresee_34 : decode cX3_foresee 34 = .ok (.aload_n 0, 1) := by decide +kernel
theorem dX3_foresee_35 : decode cX3_foresee 35 = .ok (.getfield 23, 3) := by decide +kernel
theorem dX3_foresee_38 : decode cX3_foresee 38 = .ok (.iload_n 2, 1) := by decide +kernel
theorem dX3_foresee_39 : decode cX3_foresee 39 = .ok (.invokevirtual 103, 3) := by decide +kernel
theorem dX3_foresee_42 : decode cX3_foresee 42 = .ok (.ireturn, 1) := by decide +kernel
set_option maxRecDepth 20000 in
theorem ggX3_advise_X3_checkIndex : GoodIn wsX3_advise wsX3_checkIndex := goodIn_ca (goodIn_r _ [6, 7, 8] (by decide +kernel) (by decide +kernel)) (goodIn_sub (fun _ h => List.mem_cons_of_mem _ (List.mem_append_left _ (List.mem_append_right _ h))) (by decide +kernel))
set_option maxRecDepth 20000 in
theorem gX3_advise_X3_checkIndex : GoodIn wsX3_advise (va_wsS RX3 26 yX3_checkIndex wsX3_checkIndex) := goodIn_app (goodIn_of _ (by decide +kernel)) ggX3_advise_X3_checkIndex
set_option maxRecDepth 20000 in
theorem ggX3_advise_X3_checkArgument : GoodIn wsX3_advise wsX3_checkArgument := goodIn_ca (goodIn_r _ [11, 12, 13] (by decide +kernel) (by decide +kernel)) (goodIn_sub (fun _ h => List.mem_cons_of_mem _ (List.mem_append_right _ h)) (by decide +kernel))
set_option maxRecDepth 20000 in
theorem gX3_advise_X3_checkArgument : GoodIn wsX3_advise (va_wsS RX3 30 yX3_checkArgument wsX3_checkArgument) := goodIn_app (goodIn_of _ (by decide +kernel)) ggX3_advise_X3_checkArgument
set_option maxRecDepth 20000 in
theorem ggX3_advise_X3_caughtWithGoal : GoodIn wsX3_advise wsX3_caughtWithGoal := goodIn_r _ [17, 18, 1, 19, 20, 21, 22, 23, 24, 25, 26, 27, 28, 29, 30, 31, 32, 33, 34, 35, 36, 37, 38, 39, 40, 41, 42, 43, 44, 45, 46, 47, 48, 49, 50, 51, 52, 53, 54, 55, 56, 57, 58, 59, 60, 61, 62, 63, 64, 65, 66, 67, 68, 69, 70, 71, 72, 73, 74, 75, 5, 76, 77, 78, 79, 80, 81, 82, 83, 84, 85, 86, 87, 88, 89, 90, 91, 92, 93, 94, 95, 96, 97, 98, 99, 100, 101, 102, 103, 104, 105, 106, 107, 108, 109, 110, 111, 112, 113, 114, 115, 116, 117, 118, 119, 120, 121, 122, 123, 124, 125, 126, 127, 128, 129, 130, 131, 132, 133, 134, 135, 136, 137, 138, 139, 140, 141, 142, 143, 144, 145, 146, 147, 148, 149, 150, 151, 152, 153, 154, 155, 156, 157, 158, 159, 160, 161, 162, 173, 174, 175, 176, 177, 178, 179, 180, 181, 182, 183, 184, 185, 163, 164, 165, 166, 167, 168, 169, 170, 171, 172] (by decide +kernel) (by decide +kernel)
set_option maxRecDepth 20000 in
theorem gX3_advise_X3_caughtWithGoal : GoodIn wsX3_advise (wsV RX3 126 RX3 yX3_caughtWithGoal wsX3_caughtWithGoal) := goodIn_app (goodIn_of _ (by decide +kernel)) ggX3_advise_X3_caughtWithGoal
theorem dX3_advise_0 : decode cX3_advise 0 = .ok (.iload_n 1, 1) := by decide +kernel
theorem dX3_advise_1 : decode cX3_advise 1 = .ok (.aload_n 0, 1) := by decide +kernel
theorem dX3_advise_2 : decode cX3_advise 2 = .ok (.getfield 19, 3) := by decide +kernel
theorem dX3_advise_5 : decode cX3_advise 5 = .ok (.getfield 94, 3) := by decide +kernel
theorem dX3_advise_8 : decode cX3_advise 8 = .ok (.invokestatic 26, 3) := by decide +kernel
theorem dX3_advise_11 : decode cX3_advise 11 = .ok (.iload_n 2, 1) := by decide +kernel
theorem dX3_advise_12 : decode cX3_advise 12 = .ok (.iconst 1, 1) := by decide +kernel
theorem dX3_advise_13 : decode cX3_advise 13 = .ok (.bipush 10, 2) := by decide +kernel
theorem dX3_advise_15 : decode cX3_advise 15 = .ok (.invokestatic 30, 3) := by decide +kernel
theorem dX3_advise_18 : decode cX3_advise 18 = .ok (.iconst 0, 1) := by decide +kernel
theorem dX3_advise_19 : decode cX3_advise 19 = .ok (.istore_n 3, 1) := by decide +kernel
theorem dX3_advise_20 : decode cX3_advise 20 = .ok (.iconst (-1), 1) := by decide +kernel
theorem dX3_advise_21 : decode cX3_advise 21 = .ok (.istore 4, 2) := by decide +kernel
theorem dX3_advise_23 : decode cX3_advise 23 = .ok (.iconst 0, 1) := by decide +kernel
theorem dX3_advise_24 : decode cX3_advise 24 = .ok (.istore 5, 2) := by decide +kernel
theorem dX3_advise_26 : decode cX3_advise 26 = .ok (.iload 5, 2) := by decide +kernel
theorem dX3_advise_28 : decode cX3_advise 28 = .ok (.bipush 16, 2) := by decide +kernel
theorem dX3_advise_30 : decode cX3_advise 30 = .ok (.if_icmp .ge 33, 3) := by decide +kernel
theorem dX3_advise_33 : decode cX3_advise 33 = .ok (.aload_n 0, 1) := by decide +kernel
theorem dX3_advise_34 : decode cX3_advise 34 = .ok (.iload_n 1, 1) := by decide +kernel
theorem dX3_advise_35 : decode cX3_advise 35 = .ok (.iload 5, 2) := by decide +kernel
theorem dX3_advise_37 : decode cX3_advise 37 = .ok (.iload_n 2, 1) := by decide +kernel
theorem dX3_advise_38 : decode cX3_advise 38 = .ok (.invokevirtual 126, 3) := by decide +kernel
theorem dX3_advise_41 : decode cX3_advise 41 = .ok (.istore 6, 2) := by decide +kernel
theorem dX3_advise_43 : decode cX3_advise 43 = .ok (.iload 6, 2) := by decide +kernel
theorem dX3_advise_45 : decode cX3_advise 45 = .ok (.iload 4, 2) := by decide +kernel
theorem dX3_advise_47 : decode cX3_advise 47 = .ok (.if_icmp .le 10, 3) := by decide +kernel
theorem dX3_advise_50 : decode cX3_advise 50 = .ok (.iload 6, 2) := by decide +kernel
theorem dX3_advise_52 : decode cX3_advise 52 = .ok (.istore 4, 2) := by decide +kernel
theorem dX3_advise_54 : decode cX3_advise 54 = .ok (.iload 5, 2) := by decide +kernel
theorem dX3_advise_56 : decode cX3_advise 56 = .ok (.istore_n 3, 1) := by decide +kernel
theorem dX3_advise_57 : decode cX3_advise 57 = .ok (.iinc 5 1, 3) := by decide +kernel
theorem dX3_advise_60 : decode cX3_advise 60 = .ok (.goto (-34), 3) := by decide +kernel
theorem dX3_advise_63 : decode cX3_advise 63 = .ok (.iload_n 3, 1) := by decide +kernel
theorem dX3_advise_64 : decode cX3_advise 64 = .ok (.ireturn, 1) := by decide +kernel
set_option maxRecDepth 20000 in
theorem ggX3_mean_X2_tarOfAll : GoodIn wsX3_mean wsX2_tarOfAll := goodIn_r _ [7, 8, 9, 14, 15, 16, 17, 18, 19, 20, 21, 22, 23, 24, 25, 26, 27, 28, 29, 30, 31, 32, 33] (by decide +kernel) (by decide +kernel)
set_option maxRecDepth 20000 in
theorem gX3_mean_X2_tarOfAll : GoodIn wsX3_mean (wsV RX3 129 RX2 yX2_tarOfAll wsX2_tarOfAll) := goodIn_app (goodIn_of _ (by decide +kernel)) ggX3_mean_X2_tarOfAll
theorem dX3_mean_0 : decode cX3_mean 0 = .ok (.aload_n 0, 1) := by decide +kernel
theorem dX3_mean_1 : decode cX3_mean 1 = .ok (.getfield 19, 3) := by decide +kernel
theorem dX3_mean_4 : decode cX3_mean 4 = .ok (.getfield 48, 3) := by decide +kernel
theorem dX3_mean_7 : decode cX3_mean 7 = .ok (.ifCond .ne 5, 3) := by decide +kernel
theorem dX3_mean_10 : decode cX3_mean 10 = .ok (.dconst 0, 1) := by decide +kernel
theorem dX3_mean_11 : decode cX3_mean 11 = .ok (.dreturn, 1) := by decide +kernel
theorem dX3_mean_12 : decode cX3_mean 12 = .ok (.aload_n 0, 1) := by decide +kernel
theorem dX3_mean_13 : decode cX3_mean 13 = .ok (.getfield 19, 3) := by decide +kernel
theorem dX3_mean_16 : decode cX3_mean 16 = .ok (.invokevirtual 129, 3) := by decide +kernel
theorem dX3_mean_19 : decode cX3_mean 19 = .ok (.i2d, 1) := by decide +kernel
theorem dX3_mean_20 : decode cX3_mean 20 = .ok (.aload_n 0, 1) := by decide +kernel
theorem dX3_mean_21 : decode cX3_mean 21 = .ok (.getfield 19, 3) := by decide +kernel
theorem dX3_mean_24 : decode cX3_mean 24 = .ok (.getfield 48, 3) := by decide +kernel
theorem dX3_mean_27 : decode cX3_mean 27 = .ok (.i2d, 1) := by decide +kernel
theorem dX3_mean_28 : decode cX3_mean 28 = .ok (.ddiv, 1) := by decide +kernel
theorem dX3_mean_29 : decode cX3_mean 29 = .ok (.dreturn, 1) := by decide +kernel
set_option maxRecDepth 20000 in
theorem ggX3_digest_X3_digestOfCounts : GoodIn wsX3_digest wsX3_digestOfCounts := goodIn_r _ [6, 7, 8, 9, 10, 11, 12, 13, 14, 15, 16, 17, 18, 19, 20, 21, 22, 23, 24, 25, 26, 27, 28, 29, 30, 31, 32, 33, 34, 35, 36, 37, 5, 38, 39, 126, 127, 128, 129, 130, 131, 132, 133, 134, 135, 136, 137, 138, 139, 140, 141, 142, 143, 144, 145, 146, 147, 148, 149] (by decide +kernel) (by decide +kernel)
set_option maxRecDepth 20000 in
theorem gX3_digest_X3_digestOfCounts : GoodIn wsX3_digest (wsV RX3 135 RX3 yX3_digestOfCounts wsX3_digestOfCounts) := goodIn_app (goodIn_of _ (by decide +kernel)) ggX3_digest_X3_digestOfCounts
set_option maxRecDepth 20000 in
theorem ggX3_digest_X3_digestOfTables : GoodIn wsX3_digest wsX3_digestOfTables := goodIn_r _ [43, 44, 45, 36, 37, 5, 38, 39, 126, 127, 128, 129] (by decide +kernel) (by decide +kernel)
set_option maxRecDepth 20000 in
theorem gX3_digest_X3_digestOfTables : GoodIn wsX3_digest (wsV RX3 139 RX3 yX3_digestOfTables wsX3_digestOfTables) := goodIn_app (goodIn_of _ (by decide +kernel)) ggX3_digest_X3_digestOfTables
set_option maxRecDepth 20000 in
theorem ggX3_digest_X3_digestOfCoracles : GoodIn wsX3_digest wsX3_digestOfCoracles := goodIn_r _ [49, 7, 50, 51, 52, 53, 11, 54, 24, 55, 56, 57, 58, 59, 60, 61, 62, 63, 64, 65, 66, 67, 68, 69, 36, 37, 5, 38, 39, 126, 127, 128, 129, 130, 131, 132, 133, 134, 135, 136, 137, 138, 139, 140, 141, 142, 143, 144, 145, 146, 147, 148, 149] (by decide +kernel) (by decide +kernel)
set_option maxRecDepth 20000 in
theorem gX3_digest_X3_digestOfCoracles : GoodIn wsX3_digest (wsV RX3 142 RX3 yX3_digestOfCoracles wsX3_digestOfCoracles) := goodIn_app (goodIn_of _ (by decide +kernel)) ggX3_digest_X3_digestOfCoracles
set_option maxRecDepth 20000 in
theorem ggX3_digest_X3_digestOfNets : GoodIn wsX3_digest wsX3_digestOfNets := goodIn_r _ [73, 7, 74, 75, 76, 77, 11, 78, 79, 80, 81, 82, 83, 84, 85, 86, 87, 88, 89, 90, 91, 92, 93, 94, 95, 96, 97, 98, 99, 100, 25, 101, 52, 53, 54, 24, 102, 103, 104, 58, 105, 68, 63, 106, 107, 108, 109, 60, 67, 110, 111, 112, 113, 35, 36, 37, 5, 38, 39, 126, 127, 128, 129, 130, 131, 132, 133, 134, 135, 136, 137, 138, 139, 150, 151, 152, 140, 141, 142, 143, 144, 145, 146, 147, 148, 149] (by decide +kernel) (by decide +kernel)
set_option maxRecDepth 20000 in
theorem gX3_digest_X3_digestOfNets : GoodIn wsX3_digest (wsV RX3 145 RX3 yX3_digestOfNets wsX3_digestOfNets) := goodIn_app (goodIn_of _ (by decide +kernel)) ggX3_digest_X3_digestOfNets
set_option maxRecDepth 20000 in
theorem ggX3_digest_X3_digestOfReaches : GoodIn wsX3_digest wsX3_digestOfReaches := goodIn_r _ [117, 7, 118, 119, 120, 11, 121, 110, 111, 112, 113, 35, 122, 123, 124, 125, 24, 102, 103, 104, 58, 105, 68, 63, 36, 37, 5, 38, 39, 126, 127, 128, 129, 130, 131, 132, 133, 134, 135, 136, 137, 138, 139, 140, 141, 142, 143, 144, 145, 146, 147, 148, 149] (by decide +kernel) (by decide +kernel)
set_option maxRecDepth 20000 in
theorem gX3_digest_X3_digestOfReaches : GoodIn wsX3_digest (wsV RX3 148 RX3 yX3_digestOfReaches wsX3_digestOfReaches) := goodIn_app (goodIn_of _ (by decide +kernel)) ggX3_digest_X3_digestOfReaches
theorem dX3_digest_0 : decode cX3_digest 0 = .ok (.aload_n 0, 1) := by decide +kernel
theorem dX3_digest_1 : decode cX3_digest 1 = .ok (.ldc2_w 133, 3) := by decide +kernel
theorem dX3_digest_4 : decode cX3_digest 4 = .ok (.invokevirtual 135, 3) := by decide +kernel
theorem dX3_digest_7 : decode cX3_digest 7 = .ok (.lstore_n 1, 1) := by decide +kernel
theorem dX3_digest_8 : decode cX3_digest 8 = .ok (.aload_n 0, 1) := by decide +kernel
theorem dX3_digest_9 : decode cX3_digest 9 = .ok (.lload_n 1, 1) := by decide +kernel
theorem dX3_digest_10 : decode cX3_digest 10 = .ok (.invokevirtual 139, 3) := by decide +kernel
theorem dX3_digest_13 : decode cX3_digest 13 = .ok (.lstore_n 1, 1) := by decide +kernel
theorem dX3_digest_14 : decode cX3_digest 14 = .ok (.aload_n 0, 1) := by decide +kernel
theorem dX3_digest_15 : decode cX3_digest 15 = .ok (.lload_n 1, 1) := by decide +kernel
theorem dX3_digest_16 : decode cX3_digest 16 = .ok (.invokevirtual 142, 3) := by decide +kernel
theorem dX3_digest_19 : decode cX3_digest 19 = .ok (.lstore_n 1, 1) := by decide +kernel
theorem dX3_digest_20 : decode cX3_digest 20 = .ok (.aload_n 0, 1) := by decide +kernel
theorem dX3_digest_21 : decode cX3_digest 21 = .ok (.lload_n 1, 1) := by decide +kernel
theorem dX3_digest_22 : decode cX3_digest 22 = .ok (.invokevirtual 145, 3) := by decide +kernel
theorem dX3_digest_25 : decode cX3_digest 25 = .ok (.lstore_n 1, 1) := by decide +kernel
theorem dX3_digest_26 : decode cX3_digest 26 = .ok (.aload_n 0, 1) := by decide +kernel
theorem dX3_digest_27 : decode cX3_digest 27 = .ok (.lload_n 1, 1) := by decide +kernel
theorem dX3_digest_28 : decode cX3_digest 28 = .ok (.invokevirtual 148, 3) := by decide +kernel
theorem dX3_digest_31 : decode cX3_digest 31 = .ok (.lreturn, 1) := by decide +kernel
theorem dX3_checkIndex_0 : decode cX3_checkIndex 0 = .ok (.iload_n 0, 1) := by decide +kernel
theorem dX3_checkIndex_1 : decode cX3_checkIndex 1 = .ok (.ifCond .lt 8, 3) := by decide +kernel
theorem dX3_checkIndex_4 : decode cX3_checkIndex 4 = .ok (.iload_n 0, 1) := by decide +kernel
theorem dX3_checkIndex_5 : decode cX3_checkIndex 5 = .ok (.iload_n 1, 1) := by decide +kernel
theorem dX3_checkIndex_6 : decode cX3_checkIndex 6 = .ok (.if_icmp .lt 11, 3) := by decide +kernel
theorem dX3_checkIndex_9 : decode cX3_checkIndex 9 = .ok (.new 151, 3) := by decide +kernel
theorem dX3_checkIndex_12 : decode cX3_checkIndex 12 = .ok (.dup, 1) := by decide +kernel
theorem dX3_checkIndex_13 : decode cX3_checkIndex 13 = .ok (.invokespecial 153, 3) := by decide +kernel
theorem dX3_checkIndex_16 : decode cX3_checkIndex 16 = .ok (.athrow, 1) := by decide +kernel
theorem dX3_checkIndex_17 : decode cX3_checkIndex 17 = .ok (.return_, 1) := by decide +kernel
theorem dX3_checkArgument_0 : decode cX3_checkArgument 0 = .ok (.iload_n 0, 1) := by decide +kernel
