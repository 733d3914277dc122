theorem dX4_counted_70 : decode cX4_counted 70 = .ok (.getfield 129, 3) := by decide +kernel
theorem dX4_counted_73 : decode cX4_counted 73 = .ok (.ireturn, 1) := by decide +kernel
theorem dX4_counted_74 : decode cX4_counted 74 = .ok (.aload_n 0, 1) := by decide +kernel
theorem dX4_counted_75 : decode cX4_counted 75 = .ok (.getfield 3, 3) := by decide +kernel
theorem dX4_counted_78 : decode cX4_counted 78 = .ok (.getfield 104, 3) := by decide +kernel
theorem dX4_counted_81 : decode cX4_counted 81 = .ok (.ireturn, 1) := by decide +kernel
theorem dX4_counted_82 : decode cX4_counted 82 = .ok (.aload_n 0, 1) := by decide +kernel
theorem dX4_counted_83 : decode cX4_counted 83 = .ok (.invokevirtual 132, 3) := by decide +kernel
theorem dX4_counted_86 : decode cX4_counted 86 = .ok (.ireturn, 1) := by decide +kernel
theorem dX4_counted_87 : decode cX4_counted 87 = .ok (.aload_n 0, 1) := by decide +kernel
theorem dX4_counted_88 : decode cX4_counted 88 = .ok (.getfield 3, 3) := by decide +kernel
theorem dX4_counted_91 : decode cX4_counted 91 = .ok (.getfield 111, 3) := by decide +kernel
theorem dX4_counted_94 : decode cX4_counted 94 = .ok (.ireturn, 1) := by decide +kernel
theorem dX4_counted_95 : decode cX4_counted 95 = .ok (.aload_n 0, 1) := by decide +kernel
theorem dX4_counted_96 : decode cX4_counted 96 = .ok (.aload_n 0, 1) := by decide +kernel
theorem dX4_counted_97 : decode cX4_counted 97 = .ok (.getfield 35, 3) := by decide +kernel
theorem dX4_counted_100 : decode cX4_counted 100 = .ok (.invokevirtual 136, 3) := by decide +kernel
theorem dX4_counted_103 : decode cX4_counted 103 = .ok (.ireturn, 1) := by decide +kernel
theorem dX4_counted_104 : decode cX4_counted 104 = .ok (.aload_n 0, 1) := by decide +kernel
theorem dX4_counted_105 : decode cX4_counted 105 = .ok (.aload_n 0, 1) := by decide +kernel
theorem dX4_counted_106 : decode cX4_counted 106 = .ok (.getfield 19, 3) := by decide +kernel
theorem dX4_counted_109 : decode cX4_counted 109 = .ok (.invokevirtual 136, 3) := by decide +kernel
theorem dX4_counted_112 : decode cX4_counted 112 = .ok (.ireturn, 1) := by decide +kernel
theorem dX4_counted_113 : decode cX4_counted 113 = .ok (.aload_n 0, 1) := by decide +kernel
theorem dX4_counted_114 : decode cX4_counted 114 = .ok (.getfield 48, 3) := by decide +kernel
theorem dX4_counted_117 : decode cX4_counted 117 = .ok (.ireturn, 1) := by decide +kernel
theorem dX4_counted_118 : decode cX4_counted 118 = .ok (.aload_n 0, 1) := by decide +kernel
theorem dX4_counted_119 : decode cX4_counted 119 = .ok (.getfield 51, 3) := by decide +kernel
theorem dX4_counted_122 : decode cX4_counted 122 = .ok (.ireturn, 1) := by decide +kernel
theorem dX4_counted_123 : decode cX4_counted 123 = .ok (.aload_n 0, 1) := by decide +kernel
theorem dX4_counted_124 : decode cX4_counted 124 = .ok (.getfield 3, 3) := by decide +kernel
theorem dX4_counted_127 : decode cX4_counted 127 = .ok (.getfield 140, 3) := by decide +kernel
theorem dX4_counted_130 : decode cX4_counted 130 = .ok (.iload_n 1, 1) := by decide +kernel
theorem dX4_counted_131 : decode cX4_counted 131 = .ok (.bipush 10, 2) := by decide +kernel
theorem dX4_counted_133 : decode cX4_counted 133 = .ok (.isub, 1) := by decide +kernel
theorem dX4_counted_134 : decode cX4_counted 134 = .ok (.iaload, 1) := by decide +kernel
theorem dX4_counted_135 : decode cX4_counted 135 = .ok (.ireturn, 1) := by decide +kernel
set_option maxRecDepth 20000 in
theorem ggX5_init_X4_init : GoodIn wsX5_init wsX4_init := goodIn_r _ [20, 21, 22, 2, 3, 23, 4, 24, 25, 26, 27, 28, 29, 30, 31, 32, 47, 48, 49, 50, 51, 52, 53, 54, 55, 56, 57, 58, 59] (by decide +kernel) (by decide +kernel)
set_option maxRecDepth 20000 in
theorem gX5_init_X4_init_n40 : GoodIn wsX5_init (wsX4_init) := ggX5_init_X4_init
theorem dX5_init_0 : decode cX5_init 0 = .ok (.aload_n 0, 1) := by decide +kernel
theorem dX5_init_1 : decode cX5_init 1 = .ok (.invokespecial 1, 3) := by decide +kernel
theorem dX5_init_4 : decode cX5_init 4 = .ok (.aload_n 0, 1) := by decide +kernel
theorem dX5_init_5 : decode cX5_init 5 = .ok (.bipush 8, 2) := by decide +kernel
theorem dX5_init_7 : decode cX5_init 7 = .ok (.newarray .int, 2) := by decide +kernel
theorem dX5_init_9 : decode cX5_init 9 = .ok (.dup, 1) := by decide +kernel
theorem dX5_init_10 : decode cX5_init 10 = .ok (.iconst 0, 1) := by decide +kernel
theorem dX5_init_11 : decode cX5_init 11 = .ok (.iconst 1, 1) := by decide +kernel
theorem dX5_init_12 : decode cX5_init 12 = .ok (.iastore, 1) := by decide +kernel
theorem dX5_init_13 : decode cX5_init 13 = .ok (.dup, 1) := by decide +kernel
theorem dX5_init_14 : decode cX5_init 14 = .ok (.iconst 1, 1) := by decide +kernel
theorem dX5_init_15 : decode cX5_init 15 = .ok (.iconst 1, 1) := by decide +kernel
theorem dX5_init_16 : decode cX5_init 16 = .ok (.iastore, 1) := by decide +kernel
theorem dX5_init_17 : decode cX5_init 17 = .ok (.dup, 1) := by decide +kernel
theorem dX5_init_18 : decode cX5_init 18 = .ok (.iconst 2, 1) := by decide +kernel
theorem dX5_init_19 : decode cX5_init 19 = .ok (.iconst 1, 1) := by decide +kernel
theorem dX5_init_20 : decode cX5_init 20 = .ok (.iastore, 1) := by decide +kernel
theorem dX5_init_21 : decode cX5_init 21 = .ok (.dup, 1) := by decide +kernel
theorem dX5_init_22 : decode cX5_init 22 = .ok (.iconst 3, 1) := by decide +kernel
theorem dX5_init_23 : decode cX5_init 23 = .ok (.iconst 1, 1) := by decide +kernel
theorem dX5_init_24 : decode cX5_init 24 = .ok (.iastore, 1) := by decide +kernel
theorem dX5_init_25 : decode cX5_init 25 = .ok (.dup, 1) := by decide +kernel
theorem dX5_init_26 : decode cX5_init 26 = .ok (.iconst 4, 1) := by decide +kernel
theorem dX5_init_27 : decode cX5_init 27 = .ok (.iconst 1, 1) := by decide +kernel
theorem dX5_init_28 : decode cX5_init 28 = .ok (.iastore, 1) := by decide +kernel
theorem dX5_init_29 : decode cX5_init 29 = .ok (.dup, 1) := by decide +kernel
theorem dX5_init_30 : decode cX5_init 30 = .ok (.iconst 5, 1) := by decide +kernel
theorem dX5_init_31 : decode cX5_init 31 = .ok (.iconst 1, 1) := by decide +kernel
theorem dX5_init_32 : decode cX5_init 32 = .ok (.iastore, 1) := by decide +kernel
theorem dX5_init_33 : decode cX5_init 33 = .ok (.dup, 1) := by decide +kernel
theorem dX5_init_34 : decode cX5_init 34 = .ok (.bipush 6, 2) := by decide +kernel
theorem dX5_init_36 : decode cX5_init 36 = .ok (.iconst 1, 1) := by decide +kernel
theorem dX5_init_37 : decode cX5_init 37 = .ok (.iastore, 1) := by decide +kernel
theorem dX5_init_38 : decode cX5_init 38 = .ok (.dup, 1) := by decide +kernel
theorem dX5_init_39 : decode cX5_init 39 = .ok (.bipush 7, 2) := by decide +kernel
theorem dX5_init_41 : decode cX5_init 41 = .ok (.iconst 1, 1) := by decide +kernel
theorem dX5_init_42 : decode cX5_init 42 = .ok (.iastore, 1) := by decide +kernel
theorem dX5_init_43 : decode cX5_init 43 = .ok (.putfield 7, 3) := by decide +kernel
theorem dX5_init_46 : decode cX5_init 46 = .ok (.aload_n 0, 1) := by decide +kernel
theorem dX5_init_47 : decode cX5_init 47 = .ok (.bipush 8, 2) := by decide +kernel
theorem dX5_init_49 : decode cX5_init 49 = .ok (.newarray .int, 2) := by decide +kernel
theorem dX5_init_51 : decode cX5_init 51 = .ok (.dup, 1) := by decide +kernel
theorem dX5_init_52 : decode cX5_init 52 = .ok (.iconst 0, 1) := by decide +kernel
theorem dX5_init_53 : decode cX5_init 53 = .ok (.iconst 3, 1) := by decide +kernel
theorem dX5_init_54 : decode cX5_init 54 = .ok (.iastore, 1) := by decide +kernel
theorem dX5_init_55 : decode cX5_init 55 = .ok (.dup, 1) := by decide +kernel
theorem dX5_init_56 : decode cX5_init 56 = .ok (.iconst 1, 1) := by decide +kernel
theorem dX5_init_57 : decode cX5_init 57 = .ok (.iconst 3, 1) := by decide +kernel
theorem dX5_init_58 : decode cX5_init 58 = .ok (.iastore, 1) := by decide +kernel
theorem dX5_init_59 : decode cX5_init 59 = .ok (.dup, 1) := by decide +kernel
theorem dX5_init_60 : decode cX5_init 60 = .ok (.iconst 2, 1) := by decide +kernel
theorem dX5_init_61 : decode cX5_init 61 = .ok (.iconst 3, 1) := by decide +kernel
theorem dX5_init_62 : decode cX5_init 62 = .ok (.iastore, 1) := by decide +kernel
theorem dX5_init_63 : decode cX5_init 63 = .ok (.dup, 1) := by decide +kernel
theorem dX5_init_64 : decode cX5_init 64 = .ok (.iconst 3, 1) := by decide +kernel
theorem dX5_init_65 : decode cX5_init 65 = .ok (.iconst 3, 1) := by decide +kernel
theorem dX5_init_66 : decode cX5_init 66 = .ok (.iastore, 1) := by decide +kernel
theorem dX5_init_67 : decode cX5_init 67 = .ok (.dup, 1) := by decide +kernel
theorem dX5_init_68 : decode cX5_init 68 = .ok (.iconst 4, 1) := by decide +kernel
theorem dX5_init_69 : decode cX5_init 69 = .ok (.iconst 3, 1) := by decide +kernel
theorem dX5_init_70 : decode cX5_init 70 = .ok (.iastore, 1) := by decide +kernel
theorem dX5_init_71 : decode cX5_init 71 = .ok (.dup, 1) := by decide +kernel
theorem dX5_init_72 : decode cX5_init 72 = .ok (.iconst 5, 1) := by decide +kernel
theorem dX5_init_73 : decode cX5_init 73 = .ok (.iconst 3, 1) := by decide +kernel
theorem dX5_init_74 : decode cX5_init 74 = .ok (.iastore, 1) := by decide +kernel
theorem dX5_init_75 : decode cX5_init 75 = .ok (.dup, 1) := by decide +kernel
theorem dX5_init_76 : decode cX5_init 76 = .ok (.bipush 6, 2) := by decide +kernel
theorem dX5_init_78 : decode cX5_init 78 = .ok (.iconst 3, 1) := by decide +kernel
theorem dX5_init_79 : decode cX5_init 79 = .ok (.iastore, 1) := by decide +kernel
theorem dX5_init_80 : decode cX5_init 80 = .ok (.dup, 1) := by decide +kernel
theorem dX5_init_81 : decode cX5_init 81 = .ok (.bipush 7, 2) := by decide +kernel
theorem dX5_init_83 : decode cX5_init 83 = .ok (.iconst 3, 1) := by decide +kernel
theorem dX5_init_84 : decode cX5_init 84 = .ok (.iastore, 1) := by decide +kernel
theorem dX5_init_85 : decode cX5_init 85 = .ok (.putfield 13, 3) := by decide +kernel
theorem dX5_init_88 : decode cX5_init 88 = .ok (.aload_n 0, 1) := by decide +kernel
theorem dX5_init_89 : decode cX5_init 89 = .ok (.bipush 6, 2) := by decide +kernel
theorem dX5_init_91 : decode cX5_init 91 = .ok (.newarray .int, 2) := by decide +kernel
theorem dX5_init_93 : decode cX5_init 93 = .ok (.putfield 16, 3) := by decide +kernel
theorem dX5_init_96 : decode cX5_init 96 = .ok (.aload_n 0, 1) := by decide +kernel
theorem dX5_init_97 : decode cX5_init 97 = .ok (.bipush 6, 2) := by decide +kernel
theorem dX5_init_99 : decode cX5_init 99 = .ok (.newarray .int, 2) := by decide +kernel
theorem dX5_init_101 : decode cX5_init 101 = .ok (.putfield 19, 3) := by decide +kernel
theorem dX5_init_104 : decode cX5_init 104 = .ok (.aload_n 0, 1) := by decide +kernel
theorem dX5_init_105 : decode cX5_init 105 = .ok (.bipush 6, 2) := by decide +kernel
theorem dX5_init_107 : decode cX5_init 107 = .ok (.newarray .int, 2) := by decide +kernel
theorem dX5_init_109 : decode cX5_init 109 = .ok (.putfield 22, 3) := by decide +kernel
theorem dX5_init_112 : decode cX5_init 112 = .ok (.aload_n 0, 1) := by decide +kernel
theorem dX5_init_113 : decode cX5_init 113 = .ok (.iconst 3, 1) := by decide +kernel
theorem dX5_init_114 : decode cX5_init 114 = .ok (.newarray .int, 2) := by decide +kernel
theorem dX5_init_116 : decode cX5_init 116 = .ok (.putfield 25, 3) := by decide +kernel
theorem dX5_init_119 : decode cX5_init 119 = .ok (.aload_n 0, 1) := by decide +kernel
theorem dX5_init_120 : decode cX5_init 120 = .ok (.iconst 3, 1) := by decide +kernel
theorem dX5_init_121 : decode cX5_init 121 = .ok (.newarray .int, 2) := by decide +kernel
theorem dX5_init_123 : decode cX5_init 123 = .ok (.putfield 28, 3) := by decide +kernel
theorem dX5_init_126 : decode cX5_init 126 = .ok (.aload_n 0, 1) := by decide +kernel
theorem dX5_init_127 : decode cX5_init 127 = .ok (.bipush 50, 2) := by decide +kernel
theorem dX5_init_129 : decode cX5_init 129 = .ok (.putfield 31, 3) := by decide +kernel
theorem dX5_init_132 : decode cX5_init 132 = .ok (.aload_n 0, 1) := by decide +kernel
theorem dX5_init_133 : decode cX5_init 133 = .ok (.iconst 3, 1) := by decide +kernel
theorem dX5_init_134 : decode cX5_init 134 = .ok (.newarray .int, 2) := by decide +kernel
theorem dX5_init_136 : decode cX5_init 136 = .ok (.dup, 1) := by decide +kernel
theorem dX5_init_137 : decode cX5_init 137 = .ok (.iconst 0, 1) := by decide +kernel
theorem dX5_init_138 : decode cX5_init 138 = .ok (.iconst 3, 1) := by decide +kernel
theorem dX5_init_139 : decode cX5_init 139 = .ok (.iastore, 1) := by decide +kernel
theorem dX5_init_140 : decode cX5_init 140 = .ok (.dup, 1) := by decide +kernel
theorem dX5_init_141 : decode cX5_init 141 = .ok (.iconst 1, 1) := by decide +kernel
theorem dX5_init_142 : decode cX5_init 142 = .ok (.iconst 3, 1) := by decide +kernel
theorem dX5_init_143 : decode cX5_init 143 = .ok (.iastore, 1) := by decide +kernel
theorem dX5_init_144 : decode cX5_init 144 = .ok (.dup, 1) := by decide +kernel
theorem dX5_init_145 : decode cX5_init 145 = .ok (.iconst 2, 1) := by decide +kernel
theorem dX5_init_146 : decode cX5_init 146 = .ok (.iconst 3, 1) := by decide +kernel
theorem dX5_init_147 : decode cX5_init 147 = .ok (.iastore, 1) := by decide +kernel
theorem dX5_init_148 : decode cX5_init 148 = .ok (.putfield 35, 3) := by decide +kernel
theorem dX5_init_151 : decode cX5_init 151 = .ok (.aload_n 0, 1) := by decide +kernel
theorem dX5_init_152 : decode cX5_init 152 = .ok (.new 38, 3) := by decide +kernel
theorem dX5_init_155 : decode cX5_init 155 = .ok (.dup, 1) := by decide +kernel
theorem dX5_init_156 : decode cX5_init 156 = .ok (.aload_n 0, 1) := by decide +kernel
theorem dX5_init_157 : decode cX5_init 157 = .ok (.invokespecial 40, 3) := by decide +kernel
theorem dX5_init_160 : decode cX5_init 160 = .ok (.putfield 43, 3) := by decide +kernel
theorem dX5_init_163 : decode cX5_init 163 = .ok (.aload_n 0, 1) := by decide +kernel
theorem dX5_init_164 : decode cX5_init 164 = .ok (.new 38, 3) := by decide +kernel
theorem dX5_init_167 : decode cX5_init 167 = .ok (.dup, 1) := by decide +kernel
theorem dX5_init_168 : decode cX5_init 168 = .ok (.aload_n 0, 1) := by decide +kernel
theorem dX5_init_169 : decode cX5_init 169 = .ok (.invokespecial 40, 3) := by decide +kernel
theorem dX5_init_172 : decode cX5_init 172 = .ok (.putfield 47, 3) := by decide +kernel
theorem dX5_init_175 : decode cX5_init 175 = .ok (.iconst 0, 1) := by decide +kernel
theorem dX5_init_176 : decode cX5_init 176 = .ok (.istore_n 1, 1) := by decide +kernel
theorem dX5_init_177 : decode cX5_init 177 = .ok (.iload_n 1, 1) := by decide +kernel
theorem dX5_init_178 : decode cX5_init 178 = .ok (.bipush 16, 2) := by decide +kernel
theorem dX5_init_180 : decode cX5_init 180 = .ok (.if_icmp .ge 19, 3) := by decide +kernel
theorem dX5_init_183 : decode cX5_init 183 = .ok (.aload_n 0, 1) := by decide +kernel
theorem dX5_init_184 : decode cX5_init 184 = .ok (.getfield 43, 3) := by decide +kernel
theorem dX5_init_187 : decode cX5_init 187 = .ok (.getfield 50, 3) := by decide +kernel
theorem dX5_init_190 : decode cX5_init 190 = .ok (.iload_n 1, 1) := by decide +kernel
theorem dX5_init_191 : decode cX5_init 191 = .ok (.iconst 4, 1) := by decide +kernel
theorem dX5_init_192 : decode cX5_init 192 = .ok (.iastore, 1) := by decide +kernel
theorem dX5_init_193 : decode cX5_init 193 = .ok (.iinc 1 1, 3) := by decide +kernel
theorem dX5_init_196 : decode cX5_init 196 = .ok (.goto (-19), 3) := by decide +kernel
theorem dX5_init_199 : decode cX5_init 199 = .ok (.return_, 1) := by decide +kernel
theorem dX5_thrown_0 : decode cX5_thrown 0 = .ok (.aload_n 0, 1) := by decide +kernel
theorem dX5_thrown_1 : decode cX5_thrown 1 = .ok (.getfield 53, 3) := by decide +kernel
theorem dX5_thrown_4 : decode cX5_thrown 4 = .ok (.ireturn, 1) := by decide +kernel
theorem dX5_no_0 : decode cX5_no 0 = .ok (.aload_n 0, 1) := by decide +kernel
theorem dX5_no_1 : decode cX5_no 1 = .ok (.iload_n 1, 1) := by decide +kernel
theorem dX5_no_2 : decode cX5_no 2 = .ok (.putfield 53, 3) := by decide +kernel
theorem dX5_no_5 : decode cX5_no 5 = .ok (.iconst 0, 1) := by decide +kernel
theorem dX5_no_6 : decode cX5_no 6 = .ok (.ireturn, 1) := by decide +kernel
theorem dX5_isIn_0 : decode cX5_isIn 0 = .ok (.iload_n 0, 1) := by decide +kernel
theorem dX5_isIn_1 : decode cX5_isIn 1 = .ok (.iload_n 1, 1) := by decide +kernel
theorem dX5_isIn_2 : decode cX5_isIn 2 = .ok (.if_icmp .lt 12, 3) := by decide +kernel
theorem dX5_isIn_5 : decode cX5_isIn 5 = .ok (.iload_n 0, 1) := by decide +kernel
theorem dX5_isIn_6 : decode cX5_isIn 6 = .ok (.iload_n 2, 1) := by decide +kernel
theorem dX5_isIn_7 : decode cX5_isIn 7 = .ok (.if_icmp .gt 7, 3) := by decide +kernel
theorem dX5_isIn_10 : decode cX5_isIn 10 = .ok (.iconst 1, 1) := by decide +kernel
theorem dX5_isIn_11 : decode cX5_isIn 11 = .ok (.goto 4, 3) := by decide +kernel
theorem dX5_isIn_14 : decode cX5_isIn 14 = .ok (.iconst 0, 1) := by decide +kernel
theorem dX5_isIn_15 : decode cX5_isIn 15 = .ok (.ireturn, 1) := by decide +kernel
set_option maxRecDepth 20000 in
theorem ggX5_isCoracle_X5_isIn : GoodIn wsX5_isCoracle wsX5_isIn := goodIn_r _ [5] (by decide +kernel) (by decide +kernel)
set_option maxRecDepth 20000 in
theorem gX5_isCoracle_X5_isIn : GoodIn wsX5_isCoracle (va_wsS RX5 59 yX5_isIn wsX5_isIn) := goodIn_app (goodIn_of _ (by decide +kernel)) ggX5_isCoracle_X5_isIn
theorem dX5_isCoracle_0 : decode cX5_isCoracle 0 = .ok (.iload_n 1, 1) := by decide +kernel
theorem dX5_isCoracle_1 : decode cX5_isCoracle 1 = .ok (.iconst 0, 1) := by decide +kernel
theorem dX5_isCoracle_2 : decode cX5_isCoracle 2 = .ok (.aload_n 0, 1) := by decide +kernel
theorem dX5_isCoracle_3 : decode cX5_isCoracle 3 = .ok (.getfield 56, 3) := by decide +kernel
theorem dX5_isCoracle_6 : decode cX5_isCoracle 6 = .ok (.iconst 1, 1) := by decide +kernel
theorem dX5_isCoracle_7 : decode cX5_isCoracle 7 = .ok (.isub, 1) := by decide +kernel
theorem dX5_isCoracle_8 : decode cX5_isCoracle 8 = .ok (.invokestatic 59, 3) := by decide +kernel
theorem dX5_isCoracle_11 : decode cX5_isCoracle 11 = .ok (.ireturn, 1) := by decide +kernel
set_option maxRecDepth 20000 in
theorem ggX5_isNet_X5_isIn : GoodIn wsX5_isNet wsX5_isIn := goodIn_r _ [5] (by decide +kernel) (by decide +kernel)
set_option maxRecDepth 20000 in
theorem gX5_isNet_X5_isIn : GoodIn wsX5_isNet (va_wsS RX5 59 yX5_isIn wsX5_isIn) := goodIn_app (goodIn_of _ (by decide +kernel)) ggX5_isNet_X5_isIn
theorem dX5_isNet_0 : decode cX5_isNet 0 = .ok (.iload_n 1, 1) := by decide +kernel
theorem dX5_isNet_1 : decode cX5_isNet 1 = .ok (.iconst 0, 1) := by decide +kernel
theorem dX5_isNet_2 : decode cX5_isNet 2 = .ok (.aload_n 0, 1) := by decide +kernel
theorem dX5_isNet_3 : decode cX5_isNet 3 = .ok (.getfield 63, 3) := by decide +kernel
theorem dX5_isNet_6 : decode cX5_isNet 6 = .ok (.iconst 1, 1) := by decide +kernel
theorem dX5_isNet_7 : decode cX5_isNet 7 = .ok (.isub, 1) := by decide +kernel
theorem dX5_isNet_8 : decode cX5_isNet 8 = .ok (.invokestatic 59, 3) := by decide +kernel
theorem dX5_isNet_11 : decode cX5_isNet 11 = .ok (.ireturn, 1) := by decide +kernel
set_option maxRecDepth 20000 in
theorem ggX5_set_X5_isIn : GoodIn wsX5_set wsX5_isIn := goodIn_r _ [5] (by decide +kernel) (by decide +kernel)
set_option maxRecDepth 20000 in
theorem gX5_set_X5_isIn : GoodIn wsX5_set (va_wsS RX5 59 yX5_isIn wsX5_isIn) := goodIn_app (goodIn_of _ (by decide +kernel)) ggX5_set_X5_isIn
set_option maxRecDepth 20000 in
theorem ggX5_set_X5_no : GoodIn wsX5_set wsX5_no := goodIn_r _ [9, 1, 10, 11, 12, 13, 14, 15, 16, 17, 18, 19, 20, 21, 22, 23] (by decide +kernel) (by decide +kernel)
set_option maxRecDepth 20000 in
theorem gX5_set_X5_no : GoodIn wsX5_set (wsV RX5 66 RX5 yX5_no wsX5_no) := goodIn_app (goodIn_of _ (by decide +kernel)) ggX5_set_X5_no
theorem dX5_set_0 : decode cX5_set 0 = .ok (.aload_n 0, 1) := by decide +kernel
theorem dX5_set_1 : decode cX5_set 1 = .ok (.iconst 0, 1) := by decide +kernel
theorem dX5_set_2 : decode cX5_set 2 = .ok (.putfield 53, 3) := by decide +kernel
theorem dX5_set_5 : decode cX5_set 5 = .ok (.iload_n 2, 1) := by decide +kernel
theorem dX5_set_6 : decode cX5_set 6 = .ok (.iconst 0, 1) := by decide +kernel
theorem dX5_set_7 : decode cX5_set 7 = .ok (.bipush 7, 2) := by decide +kernel
theorem dX5_set_9 : decode cX5_set 9 = .ok (.invokestatic 59, 3) := by decide +kernel
theorem dX5_set_12 : decode cX5_set 12 = .ok (.ifCond .ne 9, 3) := by decide +kernel
theorem dX5_set_15 : decode cX5_set 15 = .ok (.aload_n 0, 1) := by decide +kernel
theorem dX5_set_16 : decode cX5_set 16 = .ok (.iconst 1, 1) := by decide +kernel
theorem dX5_set_17 : decode cX5_set 17 = .ok (.invokevirtual 66, 3) := by decide +kernel
theorem dX5_set_20 : decode cX5_set 20 = .ok (.ireturn, 1) := by decide +kernel
theorem dX5_set_21 : decode cX5_set 21 = .ok (.iload_n 3, 1) := by decide +kernel
theorem dX5_set_22 : decode cX5_set 22 = .ok (.iconst 0, 1) := by decide +kernel
theorem dX5_set_23 : decode cX5_set 23 = .ok (.iload 4, 2) := by decide +kernel
theorem dX5_set_25 : decode cX5_set 25 = .ok (.invokestatic 59, 3) := by decide +kernel
theorem dX5_set_28 : decode cX5_set 28 = .ok (.ifCond .ne 9, 3) := by decide +kernel
theorem dX5_set_31 : decode cX5_set 31 = .ok (.aload_n 0, 1) := by decide +kernel
theorem dX5_set_32 : decode cX5_set 32 = .ok (.iconst 2, 1) := by decide +kernel
theorem dX5_set_33 : decode cX5_set 33 = .ok (.invokevirtual 66, 3) := by decide +kernel
theorem dX5_set_36 : decode cX5_set 36 = .ok (.ireturn, 1) := by decide +kernel
theorem dX5_set_37 : decode cX5_set 37 = .ok (.aload_n 1, 1) := by decide +kernel
theorem dX5_set_38 : decode cX5_set 38 = .ok (.iload_n 2, 1) := by decide +kernel
theorem dX5_set_39 : decode cX5_set 39 = .ok (.iaload, 1) := by decide +kernel
theorem dX5_set_40 : decode cX5_set 40 = .ok (.istore 5, 2) := by decide +kernel
theorem dX5_set_42 : decode cX5_set 42 = .ok (.aload_n 1, 1) := by decide +kernel
theorem dX5_set_43 : decode cX5_set 43 = .ok (.iload_n 2, 1) := by decide +kernel
theorem dX5_set_44 : decode cX5_set 44 = .ok (.iload_n 3, 1) := by decide +kernel
theorem dX5_set_45 : decode cX5_set 45 = .ok (.iastore, 1) := by decide +kernel
theorem dX5_set_46 : decode cX5_set 46 = .ok (.iload 5, 2) := by decide +kernel
theorem dX5_set_48 : decode cX5_set 48 = .ok (.ireturn, 1) := by decide +kernel
set_option maxRecDepth 20000 in
theorem ggX5_setDrift_X5_set : GoodIn wsX5_setDrift wsX5_set := goodIn_r _ [6, 7, 8, 9, 5, 10, 11, 12, 13, 14, 15, 16, 17, 18, 19, 20, 21, 22, 23, 24, 25, 26, 27, 28] (by decide +kernel) (by decide +kernel)
set_option maxRecDepth 20000 in
theorem gX5_setDrift_X5_set : GoodIn wsX5_setDrift (wsV RX5 70 RX5 yX5_set wsX5_set) := goodIn_app (goodIn_of _ (by decide +kernel)) ggX5_setDrift_X5_set
theorem dX5_setDrift_0 : decode cX5_setDrift 0 = .ok (.aload_n 0, 1) := by decide +kernel
theorem dX5_setDrift_1 : decode cX5_setDrift 1 = .ok (.aload_n 0, 1) := by decide +kernel
theorem dX5_setDrift_2 : decode cX5_setDrift 2 = .ok (.getfield 7, 3) := by decide +kernel
theorem dX5_setDrift_5 : decode cX5_setDrift 5 = .ok (.iload_n 1, 1) := by decide +kernel
theorem dX5_setDrift_6 : decode cX5_setDrift 6 = .ok (.iload_n 2, 1) := by decide +kernel
theorem dX5_setDrift_7 : decode cX5_setDrift 7 = .ok (.iconst 5, 1) := by decide +kernel
theorem dX5_setDrift_8 : decode cX5_setDrift 8 = .ok (.invokevirtual 70, 3) := by decide +kernel
theorem dX5_setDrift_11 : decode cX5_setDrift 11 = .ok (.ireturn, 1) := by decide +kernel
set_option maxRecDepth 20000 in
theorem ggX5_setRun_X5_set : GoodIn wsX5_setRun wsX5_set := goodIn_r _ [6, 7, 8, 9, 5, 10, 11, 12, 13, 14, 15, 16, 17, 18, 19, 20, 21, 22, 23, 24, 25, 26, 27, 28] (by decide +kernel) (by decide +kernel)
set_option maxRecDepth 20000 in
theorem gX5_setRun_X5_set : GoodIn wsX5_setRun (wsV RX5 70 RX5 yX5_set wsX5_set) := goodIn_app (goodIn_of _ (by decide +kernel)) ggX5_setRun_X5_set
theorem dX5_setRun_0 : decode cX5_setRun 0 = .ok (.aload_n 0, 1) := by decide +kernel
theorem dX5_setRun_1 : decode cX5_setRun 1 = .ok (.aload_n 0, 1) := by decide +kernel
theorem dX5_setRun_2 : decode cX5_setRun 2 = .ok (.getfield 13, 3) := by decide +kernel
theorem dX5_setRun_5 : decode cX5_setRun 5 = .ok (.iload_n 1, 1) := by decide +kernel
theorem dX5_setRun_6 : decode cX5_setRun 6 = .ok (.iload_n 2, 1) := by decide +kernel
theorem dX5_setRun_7 : decode cX5_setRun 7 = .ok (.bipush 9, 2) := by decide +kernel
theorem dX5_setRun_9 : decode cX5_setRun 9 = .ok (.invokevirtual 70, 3) := by decide +kernel
theorem dX5_setRun_12 : decode cX5_setRun 12 = .ok (.ireturn, 1) := by decide +kernel
set_option maxRecDepth 20000 in
theorem ggX5_buy_X5_isIn : GoodIn wsX5_buy wsX5_isIn := goodIn_r _ [8] (by decide +kernel) (by decide +kernel)
set_option maxRecDepth 20000 in
theorem gX5_buy_X5_isIn : GoodIn wsX5_buy (va_wsS RX5 59 yX5_isIn wsX5_isIn) := goodIn_app (goodIn_of _ (by decide +kernel)) ggX5_buy_X5_isIn
set_option maxRecDepth 20000 in
theorem ggX5_buy_X5_no : GoodIn wsX5_buy wsX5_no := goodIn_r _ [12, 1, 13, 14, 15, 16, 17, 18, 19, 20, 21, 22, 23, 24, 25, 26] (by decide +kernel) (by decide +kernel)
set_option maxRecDepth 20000 in
theorem gX5_buy_X5_no : GoodIn wsX5_buy (wsV RX5 66 RX5 yX5_no wsX5_no) := goodIn_app (goodIn_of _ (by decide +kernel)) ggX5_buy_X5_no
theorem dX5_buy_0 : decode cX5_buy 0 = .ok (.aload_n 0, 1) := by decide +kernel
theorem dX5_buy_1 : decode cX5_buy 1 = .ok (.iconst 0, 1) := by decide +kernel
theorem dX5_buy_2 : decode cX5_buy 2 = .ok (.putfield 53, 3) := by decide +kernel
theorem dX5_buy_5 : decode cX5_buy 5 = .ok (.iload_n 1, 1) := by decide +kernel
theorem dX5_buy_6 : decode cX5_buy 6 = .ok (.iconst 0, 1) := by decide +kernel
theorem dX5_buy_7 : decode cX5_buy 7 = .ok (.iconst 3, 1) := by decide +kernel
theorem dX5_buy_8 : decode cX5_buy 8 = .ok (.invokestatic 59, 3) := by decide +kernel
theorem dX5_buy_11 : decode cX5_buy 11 = .ok (.ifCond .ne 9, 3) := by decide +kernel
theorem dX5_buy_14 : decode cX5_buy 14 = .ok (.aload_n 0, 1) := by decide +kernel
theorem dX5_buy_15 : decode cX5_buy 15 = .ok (.iconst 1, 1) := by decide +kernel
theorem dX5_buy_16 : decode cX5_buy 16 = .ok (.invokevirtual 66, 3) := by decide +kernel
theorem dX5_buy_19 : decode cX5_buy 19 = .ok (.ireturn, 1) := by decide +kernel
theorem dX5_buy_20 : decode cX5_buy 20 = .ok (.iload_n 2, 1) := by decide +kernel
theorem dX5_buy_21 : decode cX5_buy 21 = .ok (.iconst 1, 1) := by decide +kernel
theorem dX5_buy_22 : decode cX5_buy 22 = .ok (.bipush 40, 2) := by decide +kernel
theorem dX5_buy_24 : decode cX5_buy 24 = .ok (.invokestatic 59, 3) := by decide +kernel
theorem dX5_buy_27 : decode cX5_buy 27 = .ok (.ifCond .ne 9, 3) := by decide +kernel
theorem dX5_buy_30 : decode cX5_buy 30 = .ok (.aload_n 0, 1) := by decide +kernel
theorem dX5_buy_31 : decode cX5_buy 31 = .ok (.iconst 2, 1) := by decide +kernel
theorem dX5_buy_32 : decode cX5_buy 32 = .ok (.invokevirtual 66, 3) := by decide +kernel
theorem dX5_buy_35 : decode cX5_buy 35 = .ok (.ireturn, 1) := by decide +kernel
theorem dX5_buy_36 : decode cX5_buy 36 = .ok (.iload_n 2, 1) := by decide +kernel
theorem dX5_buy_37 : decode cX5_buy 37 = .ok (.iload_n 1, 1) := by decide +kernel
theorem dX5_buy_38 : decode cX5_buy 38 = .ok (.ifCond .ne 7, 3) := by decide +kernel
theorem dX5_buy_41 : decode cX5_buy 41 = .ok (.iconst 4, 1) := by decide +kernel
theorem dX5_buy_42 : decode cX5_buy 42 = .ok (.goto 13, 3) := by decide +kernel
theorem dX5_buy_45 : decode cX5_buy 45 = .ok (.iload_n 1, 1) := by decide +kernel
theorem dX5_buy_46 : decode cX5_buy 46 = .ok (.iconst 1, 1) := by decide +kernel
theorem dX5_buy_47 : decode cX5_buy 47 = .ok (.if_icmp .ne 7, 3) := by decide +kernel
theorem dX5_buy_50 : decode cX5_buy 50 = .ok (.iconst 3, 1) := by decide +kernel
theorem dX5_buy_51 : decode cX5_buy 51 = .ok (.goto 4, 3) := by decide +kernel
theorem dX5_buy_54 : decode cX5_buy 54 = .ok (.iconst 1, 1) := by decide +kernel
theorem dX5_buy_55 : decode cX5_buy 55 = .ok (.imul, 1) := by decide +kernel
theorem dX5_buy_56 : decode cX5_buy 56 = .ok (.istore_n 3, 1) := by decide +kernel
theorem dX5_buy_57 : decode cX5_buy 57 = .ok (.aload_n 0, 1) := by decide +kernel
theorem dX5_buy_58 : decode cX5_buy 58 = .ok (.getfield 43, 3) := by decide +kernel
theorem dX5_buy_61 : decode cX5_buy 61 = .ok (.getfield 74, 3) := by decide +kernel
theorem dX5_buy_64 : decode cX5_buy 64 = .ok (.iload_n 3, 1) := by decide +kernel
theorem dX5_buy_65 : decode cX5_buy 65 = .ok (.if_icmp .ge 9, 3) := by decide +kernel
theorem dX5_buy_68 : decode cX5_buy 68 = .ok (.aload_n 0, 1) := by decide +kernel
theorem dX5_buy_69 : decode cX5_buy 69 = .ok (.iconst 3, 1) := by decide +kernel
theorem dX5_buy_70 : decode cX5_buy 70 = .ok (.invokevirtual 66, 3) := by decide +kernel
theorem dX5_buy_73 : decode cX5_buy 73 = .ok (.ireturn, 1) := by decide +kernel
theorem dX5_buy_74 : decode cX5_buy 74 = .ok (.aload_n 0, 1) := by decide +kernel
theorem dX5_buy_75 : decode cX5_buy 75 = .ok (.getfield 43, 3) := by decide +kernel
theorem dX5_buy_78 : decode cX5_buy 78 = .ok (.dup, 1) := by decide +kernel
theorem dX5_buy_79 : decode cX5_buy 79 = .ok (.getfield 74, 3) := by decide +kernel
theorem dX5_buy_82 : decode cX5_buy 82 = .ok (.iload_n 3, 1) := by decide +kernel
theorem dX5_buy_83 : decode cX5_buy 83 = .ok (.isub, 1) := by decide +kernel
theorem dX5_buy_84 : decode cX5_buy 84 = .ok (.putfield 74, 3) := by decide +kernel
theorem dX5_buy_87 : decode cX5_buy 87 = .ok (.iload_n 1, 1) := by decide +kernel
theorem dX5_buy_88 : decode cX5_buy 88 = .ok (.iconst 3, 1) := by decide +kernel
theorem dX5_buy_89 : decode cX5_buy 89 = .ok (.if_icmp .ne 18, 3) := by decide +kernel
theorem dX5_buy_92 : decode cX5_buy 92 = .ok (.aload_n 0, 1) := by decide +kernel
theorem dX5_buy_93 : decode cX5_buy 93 = .ok (.dup, 1) := by decide +kernel
theorem dX5_buy_94 : decode cX5_buy 94 = .ok (.getfield 31, 3) := by decide +kernel
theorem dX5_buy_97 : decode cX5_buy 97 = .ok (.iload_n 2, 1) := by decide +kernel
theorem dX5_buy_98 : decode cX5_buy 98 = .ok (.iadd, 1) := by decide +kernel
theorem dX5_buy_99 : decode cX5_buy 99 = .ok (.putfield 31, 3) := by decide +kernel
theorem dX5_buy_102 : decode cX5_buy 102 = .ok (.aload_n 0, 1) := by decide +kernel
theorem dX5_buy_103 : decode cX5_buy 103 = .ok (.getfield 31, 3) := by decide +kernel
theorem dX5_buy_106 : decode cX5_buy 106 = .ok (.ireturn, 1) := by decide +kernel
theorem dX5_buy_107 : decode cX5_buy 107 = .ok (.aload_n 0, 1) := by decide +kernel
theorem dX5_buy_108 : decode cX5_buy 108 = .ok (.getfield 35, 3) := by decide +kernel
theorem dX5_buy_111 : decode cX5_buy 111 = .ok (.iload_n 1, 1) := by decide +kernel
theorem dX5_buy_112 : decode cX5_buy 112 = .ok (.dup2, 1) := by decide +kernel
theorem dX5_buy_113 : decode cX5_buy 113 = .ok (.iaload, 1) := by decide +kernel
theorem dX5_buy_114 : decode cX5_buy 114 = .ok (.iload_n 2, 1) := by decide +kernel
theorem dX5_buy_115 : decode cX5_buy 115 = .ok (.iadd, 1) := by decide +kernel
theorem dX5_buy_116 : decode cX5_buy 116 = .ok (.iastore, 1) := by decide +kernel
theorem dX5_buy_117 : decode cX5_buy 117 = .ok (.aload_n 0, 1) := by decide +kernel
theorem dX5_buy_118 : decode cX5_buy 118 = .ok (.getfield 35, 3) := by decide +kernel
theorem dX5_buy_121 : decode cX5_buy 121 = .ok (.iload_n 1, 1) := by decide +kernel
theorem dX5_buy_122 : decode cX5_buy 122 = .ok (.iaload, 1) := by decide +kernel
theorem dX5_buy_123 : decode cX5_buy 123 = .ok (.ireturn, 1) := by decide +kernel
set_option maxRecDepth 20000 in
theorem ggX5_make_X5_isIn : GoodIn wsX5_make wsX5_isIn := goodIn_r _ [12] (by decide +kernel) (by decide +kernel)
set_option maxRecDepth 20000 in
theorem gX5_make_X5_isIn : GoodIn wsX5_make (va_wsS RX5 59 yX5_isIn wsX5_isIn) := goodIn_app (goodIn_of _ (by decide +kernel)) ggX5_make_X5_isIn
set_option maxRecDepth 20000 in
theorem ggX5_make_X5_no : GoodIn wsX5_make wsX5_no := goodIn_r _ [16, 1, 17, 18, 19, 20, 21, 22, 23, 24, 25, 26, 27, 28, 29, 30] (by decide +kernel) (by decide +kernel)
set_option maxRecDepth 20000 in
theorem gX5_make_X5_no : GoodIn wsX5_make (wsV RX5 66 RX5 yX5_no wsX5_no) := goodIn_app (goodIn_of _ (by decide +kernel)) ggX5_make_X5_no
theorem dX5_make_0 : decode cX5_make 0 = .ok (.aload_n 0, 1) := by decide +kernel
theorem dX5_make_1 : decode cX5_make 1 = .ok (.iconst 0, 1) := by decide +kernel
theorem dX5_make_2 : decode cX5_make 2 = .ok (.putfield 53, 3) := by decide +kernel
theorem dX5_make_5 : decode cX5_make 5 = .ok (.iload_n 2, 1) := by decide +kernel
theorem dX5_make_6 : decode cX5_make 6 = .ok (.iconst 0, 1) := by decide +kernel
theorem dX5_make_7 : decode cX5_make 7 = .ok (.iconst 2, 1) := by decide +kernel
theorem dX5_make_8 : decode cX5_make 8 = .ok (.invokestatic 59, 3) := by decide +kernel
theorem dX5_make_11 : decode cX5_make 11 = .ok (.ifCond .ne 9, 3) := by decide +kernel
theorem dX5_make_14 : decode cX5_make 14 = .ok (.aload_n 0, 1) := by decide +kernel
theorem dX5_make_15 : decode cX5_make 15 = .ok (.iconst 1, 1) := by decide +kernel
theorem dX5_make_16 : decode cX5_make 16 = .ok (.invokevirtual 66, 3) := by decide +kernel
theorem dX5_make_19 : decode cX5_make 19 = .ok (.ireturn, 1) := by decide +kernel
theorem dX5_make_20 : decode cX5_make 20 = .ok (.iload_n 1, 1) := by decide +kernel
theorem dX5_make_21 : decode cX5_make 21 = .ok (.iconst 4, 1) := by decide +kernel
theorem dX5_make_22 : decode cX5_make 22 = .ok (.bipush 12, 2) := by decide +kernel
theorem dX5_make_24 : decode cX5_make 24 = .ok (.invokestatic 59, 3) := by decide +kernel
theorem dX5_make_27 : decode cX5_make 27 = .ok (.ifCond .eq 13, 3) := by decide +kernel
theorem dX5_make_30 : decode cX5_make 30 = .ok (.iload_n 3, 1) := by decide +kernel
theorem dX5_make_31 : decode cX5_make 31 = .ok (.iconst 1, 1) := by decide +kernel
theorem dX5_make_32 : decode cX5_make 32 = .ok (.bipush 6, 2) := by decide +kernel
theorem dX5_make_34 : decode cX5_make 34 = .ok (.invokestatic 59, 3) := by decide +kernel
theorem dX5_make_37 : decode cX5_make 37 = .ok (.ifCond .ne 9, 3) := by decide +kernel
theorem dX5_make_40 : decode cX5_make 40 = .ok (.aload_n 0, 1) := by decide +kernel
theorem dX5_make_41 : decode cX5_make 41 = .ok (.iconst 2, 1) := by decide +kernel
theorem dX5_make_42 : decode cX5_make 42 = .ok (.invokevirtual 66, 3) := by decide +kernel
theorem dX5_make_45 : decode cX5_make 45 = .ok (.ireturn, 1) := by decide +kernel
theorem dX5_make_46 : decode cX5_make 46 = .ok (.aload_n 0, 1) := by decide +kernel
theorem dX5_make_47 : decode cX5_make 47 = .ok (.getfield 56, 3) := by decide +kernel
theorem dX5_make_50 : decode cX5_make 50 = .ok (.bipush 6, 2) := by decide +kernel
theorem dX5_make_52 : decode cX5_make 52 = .ok (.if_icmp .eq 20, 3) := by decide +kernel
theorem dX5_make_55 : decode cX5_make 55 = .ok (.aload_n 0, 1) := by decide +kernel
theorem dX5_make_56 : decode cX5_make 56 = .ok (.getfield 31, 3) := by decide +kernel
theorem dX5_make_59 : decode cX5_make 59 = .ok (.iload_n 1, 1) := by decide +kernel
theorem dX5_make_60 : decode cX5_make 60 = .ok (.if_icmp .lt 12, 3) := by decide +kernel
theorem dX5_make_63 : decode cX5_make 63 = .ok (.aload_n 0, 1) := by decide +kernel
theorem dX5_make_64 : decode cX5_make 64 = .ok (.getfield 35, 3) := by decide +kernel
theorem dX5_make_67 : decode cX5_make 67 = .ok (.iload_n 2, 1) := by decide +kernel
theorem dX5_make_68 : decode cX5_make 68 = .ok (.iaload, 1) := by decide +kernel
theorem dX5_make_69 : decode cX5_make 69 = .ok (.ifCond .ne 9, 3) := by decide +kernel
theorem dX5_make_72 : decode cX5_make 72 = .ok (.aload_n 0, 1) := by decide +kernel
theorem dX5_make_73 : decode cX5_make 73 = .ok (.iconst 3, 1) := by decide +kernel
theorem dX5_make_74 : decode cX5_make 74 = .ok (.invokevirtual 66, 3) := by decide +kernel
theorem dX5_make_77 : decode cX5_make 77 = .ok (.ireturn, 1) := by decide +kernel
theorem dX5_make_78 : decode cX5_make 78 = .ok (.aload_n 0, 1) := by decide +kernel
theorem dX5_make_79 : decode cX5_make 79 = .ok (.dup, 1) := by decide +kernel
theorem dX5_make_80 : decode cX5_make 80 = .ok (.getfield 31, 3) := by decide +kernel
theorem dX5_make_83 : decode cX5_make 83 = .ok (.iload_n 1, 1) := by decide +kernel
theorem dX5_make_84 : decode cX5_make 84 = .ok (.isub, 1) := by decide +kernel
theorem dX5_make_85 : decode cX5_make 85 = .ok (.putfield 31, 3) := by decide +kernel
theorem dX5_make_88 : decode cX5_make 88 = .ok (.aload_n 0, 1) := by decide +kernel
theorem dX5_make_89 : decode cX5_make 89 = .ok (.getfield 35, 3) := by decide +kernel
theorem dX5_make_92 : decode cX5_make 92 = .ok (.iload_n 2, 1) := by decide +kernel
theorem dX5_make_93 : decode cX5_make 93 = .ok (.dup2, 1) := by decide +kernel
theorem dX5_make_94 : decode cX5_make 94 = .ok (.iaload, 1) := by decide +kernel
theorem dX5_make_95 : decode cX5_make 95 = .ok (.iconst 1, 1) := by decide +kernel
theorem dX5_make_96 : decode cX5_make 96 = .ok (.isub, 1) := by decide +kernel
theorem dX5_make_97 : decode cX5_make 97 = .ok (.iastore, 1) := by decide +kernel
theorem dX5_make_98 : decode cX5_make 98 = .ok (.aload_n 0, 1) := by decide +kernel
theorem dX5_make_99 : decode cX5_make 99 = .ok (.getfield 16, 3) := by decide +kernel
theorem dX5_make_102 : decode cX5_make 102 = .ok (.aload_n 0, 1) := by decide +kernel
theorem dX5_make_103 : decode cX5_make 103 = .ok (.getfield 56, 3) := by decide +kernel
theorem dX5_make_106 : decode cX5_make 106 = .ok (.iload_n 1, 1) := by decide +kernel
theorem dX5_make_107 : decode cX5_make 107 = .ok (.iastore, 1) := by decide +kernel
theorem dX5_make_108 : decode cX5_make 108 = .ok (.aload_n 0, 1) := by decide +kernel
theorem dX5_make_109 : decode cX5_make 109 = .ok (.getfield 19, 3) := by decide +kernel
theorem dX5_make_112 : decode cX5_make 112 = .ok (.aload_n 0, 1) := by decide +kernel
theorem dX5_make_113 : decode cX5_make 113 = .ok (.getfield 56, 3) := by decide +kernel
theorem dX5_make_116 : decode cX5_make 116 = .ok (.iload_n 2, 1) := by decide +kernel
theorem dX5_make_117 : decode cX5_make 117 = .ok (.iastore, 1) := by decide +kernel
theorem dX5_make_118 : decode cX5_make 118 = .ok (.aload_n 0, 1) := by decide +kernel
theorem dX5_make_119 : decode cX5_make 119 = .ok (.getfield 22, 3) := by decide +kernel
theorem dX5_make_122 : decode cX5_make 122 = .ok (.aload_n 0, 1) := by decide +kernel
theorem dX5_make_123 : decode cX5_make 123 = .ok (.getfield 56, 3) := by decide +kernel
theorem dX5_make_126 : decode cX5_make 126 = .ok (.iload_n 3, 1) := by decide +kernel
theorem dX5_make_127 : decode cX5_make 127 = .ok (.iastore, 1) := by decide +kernel
theorem dX5_make_128 : decode cX5_make 128 = .ok (.aload_n 0, 1) := by decide +kernel
theorem dX5_make_129 : decode cX5_make 129 = .ok (.getfield 43, 3) := by decide +kernel
theorem dX5_make_132 : decode cX5_make 132 = .ok (.getfield 77, 3) := by decide +kernel
theorem dX5_make_135 : decode cX5_make 135 = .ok (.aload_n 0, 1) := by decide +kernel
theorem dX5_make_136 : decode cX5_make 136 = .ok (.getfield 56, 3) := by decide +kernel
theorem dX5_make_139 : decode cX5_make 139 = .ok (.bipush 30, 2) := by decide +kernel
theorem dX5_make_141 : decode cX5_make 141 = .ok (.iastore, 1) := by decide +kernel
theorem dX5_make_142 : decode cX5_make 142 = .ok (.aload_n 0, 1) := by decide +kernel
theorem dX5_make_143 : decode cX5_make 143 = .ok (.dup, 1) := by decide +kernel
theorem dX5_make_144 : decode cX5_make 144 = .ok (.getfield 56, 3) := by decide +kernel
theorem dX5_make_147 : decode cX5_make 147 = .ok (.iconst 1, 1) := by decide +kernel
theorem dX5_make_148 : decode cX5_make 148 = .ok (.iadd, 1) := by decide +kernel
theorem dX5_make_149 : decode cX5_make 149 = .ok (.putfield 56, 3) := by decide +kernel
theorem dX5_make_152 : decode cX5_make 152 = .ok (.aload_n 0, 1) := by decide +kernel
theorem dX5_make_153 : decode cX5_make 153 = .ok (.getfield 56, 3) := by decide +kernel
theorem dX5_make_156 : decode cX5_make 156 = .ok (.iconst 1, 1) := by decide +kernel
theorem dX5_make_157 : decode cX5_make 157 = .ok (.isub, 1) := by decide +kernel
theorem dX5_make_158 : decode cX5_make 158 = .ok (.ireturn, 1) := by decide +kernel
theorem dX5_netOf_0 : decode cX5_netOf 0 = .ok (.iconst 0, 1) := by decide +kernel
theorem dX5_netOf_1 : decode cX5_netOf 1 = .ok (.istore_n 2, 1) := by decide +kernel
theorem dX5_netOf_2 : decode cX5_netOf 2 = .ok (.iload_n 2, 1) := by decide +kernel
theorem dX5_netOf_3 : decode cX5_netOf 3 = .ok (.aload_n 0, 1) := by decide +kernel
theorem dX5_netOf_4 : decode cX5_netOf 4 = .ok (.getfield 63, 3) := by decide +kernel
theorem dX5_netOf_7 : decode cX5_netOf 7 = .ok (.if_icmp .ge 31, 3) := by decide +kernel
theorem dX5_netOf_10 : decode cX5_netOf 10 = .ok (.aload_n 0, 1) := by decide +kernel
theorem dX5_netOf_11 : decode cX5_netOf 11 = .ok (.getfield 25, 3) := by decide +kernel
theorem dX5_netOf_14 : decode cX5_netOf 14 = .ok (.iload_n 2, 1) := by decide +kernel
theorem dX5_netOf_15 : decode cX5_netOf 15 = .ok (.iaload, 1) := by decide +kernel
theorem dX5_netOf_16 : decode cX5_netOf 16 = .ok (.iload_n 1, 1) := by decide +kernel
theorem dX5_netOf_17 : decode cX5_netOf 17 = .ok (.if_icmp .eq 13, 3) := by decide +kernel
theorem dX5_netOf_20 : decode cX5_netOf 20 = .ok (.aload_n 0, 1) := by decide +kernel
theorem dX5_netOf_21 : decode cX5_netOf 21 = .ok (.getfield 28, 3) := by decide +kernel
theorem dX5_netOf_24 : decode cX5_netOf 24 = .ok (.iload_n 2, 1) := by decide +kernel
theorem dX5_netOf_25 : decode cX5_netOf 25 = .ok (.iaload, 1) := by decide +kernel
theorem dX5_netOf_26 : decode cX5_netOf 26 = .ok (.iload_n 1, 1) := by decide +kernel
theorem dX5_netOf_27 : decode cX5_netOf 27 = .ok (.if_icmp .ne 5, 3) := by decide +kernel
theorem dX5_netOf_30 : decode cX5_netOf 30 = .ok (.iload_n 2, 1) := by decide +kernel
theorem dX5_netOf_31 : decode cX5_netOf 31 = .ok (.ireturn, 1) := by decide +kernel
theorem dX5_netOf_32 : decode cX5_netOf 32 = .ok (.iinc 2 1, 3) := by decide +kernel
theorem dX5_netOf_35 : decode cX5_netOf 35 = .ok (.goto (-33), 3) := by decide +kernel
theorem dX5_netOf_38 : decode cX5_netOf 38 = .ok (.iconst (-1), 1) := by decide +kernel
theorem dX5_netOf_39 : decode cX5_netOf 39 = .ok (.ireturn, 1) := by decide +kernel
set_option maxRecDepth 20000 in
theorem ggX5_net_X5_isCoracle : GoodIn wsX5_net wsX5_isCoracle := goodIn_r _ [9, 10, 11, 12, 8, 13, 22, 23, 24, 25, 26, 27, 28, 29, 30, 31, 32, 33, 34, 35] (by decide +kernel) (by decide +kernel)
set_option maxRecDepth 20000 in
theorem gX5_net_X5_isCoracle : GoodIn wsX5_net (wsV RX5 80 RX5 yX5_isCoracle wsX5_isCoracle) := goodIn_app (goodIn_of _ (by decide +kernel)) ggX5_net_X5_isCoracle
set_option maxRecDepth 20000 in
theorem ggX5_net_X5_no : GoodIn wsX5_net wsX5_no := goodIn_r _ [17, 1, 22, 23, 24, 25, 26, 27, 28, 29, 30, 31, 32, 33, 34, 35] (by decide +kernel) (by decide +kernel)
set_option maxRecDepth 20000 in
theorem gX5_net_X5_no : GoodIn wsX5_net (wsV RX5 66 RX5 yX5_no wsX5_no) := goodIn_app (goodIn_of _ (by decide +kernel)) ggX5_net_X5_no
set_option maxRecDepth 20000 in
theorem ggX5_net_X5_netOf : GoodIn wsX5_net wsX5_netOf := goodIn_r _ [21, 3, 2, 4, 22, 23, 24, 25, 26, 27, 28, 29, 30, 31, 32, 33, 34, 35] (by decide +kernel) (by decide +kernel)
set_option maxRecDepth 20000 in
theorem gX5_net_X5_netOf : GoodIn wsX5_net (wsV RX5 84 RX5 yX5_netOf wsX5_netOf) := goodIn_app (goodIn_of _ (by decide +kernel)) ggX5_net_X5_netOf
theorem dX5_net_0 : decode cX5_net 0 = .ok (.aload_n 0, 1) := by decide +kernel
theorem dX5_net_1 : decode cX5_net 1 = .ok (.iconst 0, 1) := by decide +kernel
theorem dX5_net_2 : decode cX5_net 2 = .ok (.putfield 53, 3) := by decide +kernel
theorem dX5_net_5 : decode cX5_net 5 = .ok (.aload_n 0, 1) := by decide +kernel
theorem dX5_net_6 : decode cX5_net 6 = .ok (.iload_n 1, 1) := by decide +kernel
theorem dX5_net_7 : decode cX5_net 7 = .ok (.invokevirtual 80, 3) := by decide +kernel
theorem dX5_net_10 : decode cX5_net 10 = .ok (.ifCond .eq 11, 3) := by decide +kernel
theorem dX5_net_13 : decode cX5_net 13 = .ok (.aload_n 0, 1) := by decide +kernel
theorem dX5_net_14 : decode cX5_net 14 = .ok (.iload_n 2, 1) := by decide +kernel
theorem dX5_net_15 : decode cX5_net 15 = .ok (.invokevirtual 80, 3) := by decide +kernel
theorem dX5_net_18 : decode cX5_net 18 = .ok (.ifCond .ne 9, 3) := by decide +kernel
theorem dX5_net_21 : decode cX5_net 21 = .ok (.aload_n 0, 1) := by decide +kernel
theorem dX5_net_22 : decode cX5_net 22 = .ok (.iconst 1, 1) := by decide +kernel
theorem dX5_net_23 : decode cX5_net 23 = .ok (.invokevirtual 66, 3) := by decide +kernel
theorem dX5_net_26 : decode cX5_net 26 = .ok (.ireturn, 1) := by decide +kernel
theorem dX5_net_27 : decode cX5_net 27 = .ok (.iload_n 1, 1) := by decide +kernel
theorem dX5_net_28 : decode cX5_net 28 = .ok (.iload_n 2, 1) := by decide +kernel
theorem dX5_net_29 : decode cX5_net 29 = .ok (.if_icmp .ne 9, 3) := by decide +kernel
theorem dX5_net_32 : decode cX5_net 32 = .ok (.aload_n 0, 1) := by decide +kernel
theorem dX5_net_33 : decode cX5_net 33 = .ok (.iconst 2, 1) := by decide +kernel
theorem dX5_net_34 : decode cX5_net 34 = .ok (.invokevirtual 66, 3) := by decide +kernel
theorem dX5_net_37 : decode cX5_net 37 = .ok (.ireturn, 1) := by decide +kernel
theorem dX5_net_38 : decode cX5_net 38 = .ok (.aload_n 0, 1) := by decide +kernel
theorem dX5_net_39 : decode cX5_net 39 = .ok (.iload_n 1, 1) := by decide +kernel
theorem dX5_net_40 : decode cX5_net 40 = .ok (.invokevirtual 84, 3) := by decide +kernel
theorem dX5_net_43 : decode cX5_net 43 = .ok (.iconst (-1), 1) := by decide +kernel
theorem dX5_net_44 : decode cX5_net 44 = .ok (.if_icmp .ne 12, 3) := by decide +kernel
theorem dX5_net_47 : decode cX5_net 47 = .ok (.aload_n 0, 1) := by decide +kernel
theorem dX5_net_48 : decode cX5_net 48 = .ok (.iload_n 2, 1) := by decide +kernel
theorem dX5_net_49 : decode cX5_net 49 = .ok (.invokevirtual 84, 3) := by decide +kernel
theorem dX5_net_52 : decode cX5_net 52 = .ok (.iconst (-1), 1) := by decide +kernel
theorem dX5_net_53 : decode cX5_net 53 = .ok (.if_icmp .eq 9, 3) := by decide +kernel
theorem dX5_net_56 : decode cX5_net 56 = .ok (.aload_n 0, 1) := by decide +kernel
theorem dX5_net_57 : decode cX5_net 57 = .ok (.iconst 3, 1) := by decide +kernel
theorem dX5_net_58 : decode cX5_net 58 = .ok (.invokevirtual 66, 3) := by decide +kernel
theorem dX5_net_61 : decode cX5_net 61 = .ok (.ireturn, 1) := by decide +kernel
theorem dX5_net_62 : decode cX5_net 62 = .ok (.aload_n 0, 1) := by decide +kernel
theorem dX5_net_63 : decode cX5_net 63 = .ok (.getfield 25, 3) := by decide +kernel
theorem dX5_net_66 : decode cX5_net 66 = .ok (.aload_n 0, 1) := by decide +kernel
theorem dX5_net_67 : decode cX5_net 67 = .ok (.getfield 63, 3) := by decide +kernel
theorem dX5_net_70 : decode cX5_net 70 = .ok (.iload_n 1, 1) := by decide +kernel
theorem dX5_net_71 : decode cX5_net 71 = .ok (.iastore, 1) := by decide +kernel
theorem dX5_net_72 : decode cX5_net 72 = .ok (.aload_n 0, 1) := by decide +kernel
theorem dX5_net_73 : decode cX5_net 73 = .ok (.getfield 28, 3) := by decide +kernel
theorem dX5_net_76 : decode cX5_net 76 = .ok (.aload_n 0, 1) := by decide +kernel
theorem dX5_net_77 : decode cX5_net 77 = .ok (.getfield 63, 3) := by decide +kernel
theorem dX5_net_80 : decode cX5_net 80 = .ok (.iload_n 2, 1) := by decide +kernel
theorem dX5_net_81 : decode cX5_net 81 = .ok (.iastore, 1) := by decide +kernel
theorem dX5_net_82 : decode cX5_net 82 = .ok (.aload_n 0, 1) := by decide +kernel
theorem dX5_net_83 : decode cX5_net 83 = .ok (.dup, 1) := by decide +kernel
theorem dX5_net_84 : decode cX5_net 84 = .ok (.getfield 63, 3) := by decide +kernel
theorem dX5_net_87 : decode cX5_net 87 = .ok (.iconst 1, 1) := by decide +kernel
theorem dX5_net_88 : decode cX5_net 88 = .ok (.iadd, 1) := by decide +kernel
theorem dX5_net_89 : decode cX5_net 89 = .ok (.putfield 63, 3) := by decide +kernel
theorem dX5_net_92 : decode cX5_net 92 = .ok (.aload_n 0, 1) := by decide +kernel
theorem dX5_net_93 : decode cX5_net 93 = .ok (.getfield 63, 3) := by decide +kernel
theorem dX5_net_96 : decode cX5_net 96 = .ok (.iconst 1, 1) := by decide +kernel
theorem dX5_net_97 : decode cX5_net 97 = .ok (.isub, 1) := by decide +kernel
theorem dX5_net_98 : decode cX5_net 98 = .ok (.ireturn, 1) := by decide +kernel
set_option maxRecDepth 20000 in
theorem ggX5_send_X5_isCoracle : GoodIn wsX5_send wsX5_isCoracle := goodIn_r _ [7, 8, 9, 10, 6, 11, 16, 17, 18, 19, 20, 21, 22, 23, 24, 25, 26, 27, 28, 29] (by decide +kernel) (by decide +kernel)
set_option maxRecDepth 20000 in
theorem gX5_send_X5_isCoracle : GoodIn wsX5_send (wsV RX5 80 RX5 yX5_isCoracle wsX5_isCoracle) := goodIn_app (goodIn_of _ (by decide +kernel)) ggX5_send_X5_isCoracle
set_option maxRecDepth 20000 in
theorem ggX5_send_X5_isIn : GoodIn wsX5_send wsX5_isIn := goodIn_r _ [11] (by decide +kernel) (by decide +kernel)
set_option maxRecDepth 20000 in
theorem gX5_send_X5_isIn : GoodIn wsX5_send (va_wsS RX5 59 yX5_isIn wsX5_isIn) := goodIn_app (goodIn_of _ (by decide +kernel)) ggX5_send_X5_isIn
set_option maxRecDepth 20000 in
theorem ggX5_send_X5_no : GoodIn wsX5_send wsX5_no := goodIn_r _ [15, 1, 16, 17, 18, 19, 20, 21, 22, 23, 24, 25, 26, 27, 28, 29] (by decide +kernel) (by decide +kernel)
set_option maxRecDepth 20000 in
theorem gX5_send_X5_no : GoodIn wsX5_send (wsV RX5 66 RX5 yX5_no wsX5_no) := goodIn_app (goodIn_of _ (by decide +kernel)) ggX5_send_X5_no
theorem dX5_send_0 : decode cX5_send 0 = .ok (.aload_n 0, 1) := by decide +kernel
theorem dX5_send_1 : decode cX5_send 1 = .ok (.iconst 0, 1) := by decide +kernel
theorem dX5_send_2 : decode cX5_send 2 = .ok (.putfield 53, 3) := by decide +kernel
theorem dX5_send_5 : decode cX5_send 5 = .ok (.aload_n 0, 1) := by decide +kernel
theorem dX5_send_6 : decode cX5_send 6 = .ok (.iload_n 1, 1) := by decide +kernel
theorem dX5_send_7 : decode cX5_send 7 = .ok (.invokevirtual 80, 3) := by decide +kernel
theorem dX5_send_10 : decode cX5_send 10 = .ok (.ifCond .eq 13, 3) := by decide +kernel
theorem dX5_send_13 : decode cX5_send 13 = .ok (.iload_n 2, 1) := by decide +kernel
theorem dX5_send_14 : decode cX5_send 14 = .ok (.iconst 0, 1) := by decide +kernel
theorem dX5_send_15 : decode cX5_send 15 = .ok (.bipush 15, 2) := by decide +kernel
theorem dX5_send_17 : decode cX5_send 17 = .ok (.invokestatic 59, 3) := by decide +kernel
theorem dX5_send_20 : decode cX5_send 20 = .ok (.ifCond .ne 9, 3) := by decide +kernel
theorem dX5_send_23 : decode cX5_send 23 = .ok (.aload_n 0, 1) := by decide +kernel
theorem dX5_send_24 : decode cX5_send 24 = .ok (.iconst 1, 1) := by decide +kernel
theorem dX5_send_25 : decode cX5_send 25 = .ok (.invokevirtual 66, 3) := by decide +kernel
theorem dX5_send_28 : decode cX5_send 28 = .ok (.ireturn, 1) := by decide +kernel
theorem dX5_send_29 : decode cX5_send 29 = .ok (.aload_n 0, 1) := by decide +kernel
theorem dX5_send_30 : decode cX5_send 30 = .ok (.getfield 43, 3) := by decide +kernel
theorem dX5_send_33 : decode cX5_send 33 = .ok (.getfield 87, 3) := by decide +kernel
theorem dX5_send_36 : decode cX5_send 36 = .ok (.iload_n 1, 1) := by decide +kernel
theorem dX5_send_37 : decode cX5_send 37 = .ok (.iaload, 1) := by decide +kernel
theorem dX5_send_38 : decode cX5_send 38 = .ok (.istore_n 3, 1) := by decide +kernel
theorem dX5_send_39 : decode cX5_send 39 = .ok (.aload_n 0, 1) := by decide +kernel
theorem dX5_send_40 : decode cX5_send 40 = .ok (.getfield 43, 3) := by decide +kernel
theorem dX5_send_43 : decode cX5_send 43 = .ok (.getfield 87, 3) := by decide +kernel
theorem dX5_send_46 : decode cX5_send 46 = .ok (.iload_n 1, 1) := by decide +kernel
theorem dX5_send_47 : decode cX5_send 47 = .ok (.iload_n 2, 1) := by decide +kernel
theorem dX5_send_48 : decode cX5_send 48 = .ok (.iastore, 1) := by decide +kernel
theorem dX5_send_49 : decode cX5_send 49 = .ok (.iload_n 3, 1) := by decide +kernel
theorem dX5_send_50 : decode cX5_send 50 = .ok (.ireturn, 1) := by decide +kernel
theorem dX5_isAtMarket_0 : decode cX5_isAtMarket 0 = .ok (.aload_n 0, 1) := by decide +kernel
theorem dX5_isAtMarket_1 : decode cX5_isAtMarket 1 = .ok (.getfield 43, 3) := by decide +kernel
theorem dX5_isAtMarket_4 : decode cX5_isAtMarket 4 = .ok (.getfield 90, 3) := by decide +kernel
theorem dX5_isAtMarket_7 : decode cX5_isAtMarket 7 = .ok (.iload_n 1, 1) := by decide +kernel
theorem dX5_isAtMarket_8 : decode cX5_isAtMarket 8 = .ok (.baload, 1) := by decide +kernel
theorem dX5_isAtMarket_9 : decode cX5_isAtMarket 9 = .ok (.ifCond .ne 19, 3) := by decide +kernel
theorem dX5_isAtMarket_12 : decode cX5_isAtMarket 12 = .ok (.aload_n 0, 1) := by decide +kernel
theorem dX5_isAtMarket_13 : decode cX5_isAtMarket 13 = .ok (.getfield 43, 3) := by decide +kernel
theorem dX5_isAtMarket_16 : decode cX5_isAtMarket 16 = .ok (.getfield 94, 3) := by decide +kernel
theorem dX5_isAtMarket_19 : decode cX5_isAtMarket 19 = .ok (.iload_n 1, 1) := by decide +kernel
theorem dX5_isAtMarket_20 : decode cX5_isAtMarket 20 = .ok (.iaload, 1) := by decide +kernel
theorem dX5_isAtMarket_21 : decode cX5_isAtMarket 21 = .ok (.ifCond .ne 7, 3) := by decide +kernel
theorem dX5_isAtMarket_24 : decode cX5_isAtMarket 24 = .ok (.iconst 1, 1) := by decide +kernel
theorem dX5_isAtMarket_25 : decode cX5_isAtMarket 25 = .ok (.goto 4, 3) := by decide +kernel
theorem dX5_isAtMarket_28 : decode cX5_isAtMarket 28 = .ok (.iconst 0, 1) := by decide +kernel
theorem dX5_isAtMarket_29 : decode cX5_isAtMarket 29 = .ok (.ireturn, 1) := by decide +kernel
set_option maxRecDepth 20000 in
theorem ggX5_tar_X5_isCoracle : GoodIn wsX5_tar wsX5_isCoracle := goodIn_r _ [7, 8, 9, 10, 6, 11, 20, 21, 22, 23, 24, 25, 26, 27, 28, 29, 30, 31, 32, 33] (by decide +kernel) (by decide +kernel)
set_option maxRecDepth 20000 in
theorem gX5_tar_X5_isCoracle : GoodIn wsX5_tar (wsV RX5 80 RX5 yX5_isCoracle wsX5_isCoracle) := goodIn_app (goodIn_of _ (by decide +kernel)) ggX5_tar_X5_isCoracle
set_option maxRecDepth 20000 in
theorem ggX5_tar_X5_no : GoodIn wsX5_tar wsX5_no := goodIn_r _ [15, 1, 20, 21, 22, 23, 24, 25, 26, 27, 28, 29, 30, 31, 32, 33] (by decide +kernel) (by decide +kernel)
set_option maxRecDepth 20000 in
theorem gX5_tar_X5_no : GoodIn wsX5_tar (wsV RX5 66 RX5 yX5_no wsX5_no) := goodIn_app (goodIn_of _ (by decide +kernel)) ggX5_tar_X5_no
set_option maxRecDepth 20000 in
theorem ggX5_tar_X5_isAtMarket : GoodIn wsX5_tar wsX5_isAtMarket := goodIn_r _ [19, 2, 20, 21, 22, 23, 24, 25, 26, 27, 28, 29, 30, 31, 32, 33, 34, 35, 36, 37, 38, 39, 40, 41, 42, 43, 44, 45, 46] (by decide +kernel) (by decide +kernel)
set_option maxRecDepth 20000 in
theorem gX5_tar_X5_isAtMarket : GoodIn wsX5_tar (wsV RX5 97 RX5 yX5_isAtMarket wsX5_isAtMarket) := goodIn_app (goodIn_of _ (by decide +kernel)) ggX5_tar_X5_isAtMarket
theorem dX5_tar_0 : decode cX5_tar 0 = .ok (.aload_n 0, 1) := by decide +kernel
theorem dX5_tar_1 : decode cX5_tar 1 = .ok (.iconst 0, 1) := by decide +kernel
theorem dX5_tar_2 : decode cX5_tar 2 = .ok (.putfield 53, 3) := by decide +kernel
theorem dX5_tar_5 : decode cX5_tar 5 = .ok (.aload_n 0, 1) := by decide +kernel
theorem dX5_tar_6 : decode cX5_tar 6 = .ok (.iload_n 1, 1) := by decide +kernel
theorem dX5_tar_7 : decode cX5_tar 7 = .ok (.invokevirtual 80, 3) := by decide +kernel
theorem dX5_tar_10 : decode cX5_tar 10 = .ok (.ifCond .ne 9, 3) := by decide +kernel
theorem dX5_tar_13 : decode cX5_tar 13 = .ok (.aload_n 0, 1) := by decide +kernel
theorem dX5_tar_14 : decode cX5_tar 14 = .ok (.iconst 1, 1) := by decide +kernel
theorem dX5_tar_15 : decode cX5_tar 15 = .ok (.invokevirtual 66, 3) := by decide +kernel
theorem dX5_tar_18 : decode cX5_tar 18 = .ok (.ireturn, 1) := by decide +kernel
theorem dX5_tar_19 : decode cX5_tar 19 = .ok (.aload_n 0, 1) := by decide +kernel
theorem dX5_tar_20 : decode cX5_tar 20 = .ok (.iload_n 1, 1) := by decide +kernel
theorem dX5_tar_21 : decode cX5_tar 21 = .ok (.invokevirtual 97, 3) := by decide +kernel
theorem dX5_tar_24 : decode cX5_tar 24 = .ok (.ifCond .eq 14, 3) := by decide +kernel
theorem dX5_tar_27 : decode cX5_tar 27 = .ok (.aload_n 0, 1) := by decide +kernel
theorem dX5_tar_28 : decode cX5_tar 28 = .ok (.getfield 43, 3) := by decide +kernel
theorem dX5_tar_31 : decode cX5_tar 31 = .ok (.getfield 74, 3) := by decide +kernel
theorem dX5_tar_34 : decode cX5_tar 34 = .ok (.iconst 3, 1) := by decide +kernel
theorem dX5_tar_35 : decode cX5_tar 35 = .ok (.if_icmp .ge 9, 3) := by decide +kernel
theorem dX5_tar_38 : decode cX5_tar 38 = .ok (.aload_n 0, 1) := by decide +kernel
theorem dX5_tar_39 : decode cX5_tar 39 = .ok (.iconst 2, 1) := by decide +kernel
theorem dX5_tar_40 : decode cX5_tar 40 = .ok (.invokevirtual 66, 3) := by decide +kernel
theorem dX5_tar_43 : decode cX5_tar 43 = .ok (.ireturn, 1) := by decide +kernel
theorem dX5_tar_44 : decode cX5_tar 44 = .ok (.aload_n 0, 1) := by decide +kernel
theorem dX5_tar_45 : decode cX5_tar 45 = .ok (.getfield 43, 3) := by decide +kernel
theorem dX5_tar_48 : decode cX5_tar 48 = .ok (.getfield 100, 3) := by decide +kernel
theorem dX5_tar_51 : decode cX5_tar 51 = .ok (.iload_n 1, 1) := by decide +kernel
theorem dX5_tar_52 : decode cX5_tar 52 = .ok (.iaload, 1) := by decide +kernel
theorem dX5_tar_53 : decode cX5_tar 53 = .ok (.istore_n 2, 1) := by decide +kernel
theorem dX5_tar_54 : decode cX5_tar 54 = .ok (.aload_n 0, 1) := by decide +kernel
theorem dX5_tar_55 : decode cX5_tar 55 = .ok (.getfield 43, 3) := by decide +kernel
theorem dX5_tar_58 : decode cX5_tar 58 = .ok (.dup, 1) := by decide +kernel
theorem dX5_tar_59 : decode cX5_tar 59 = .ok (.getfield 74, 3) := by decide +kernel
theorem dX5_tar_62 : decode cX5_tar 62 = .ok (.iconst 3, 1) := by decide +kernel
theorem dX5_tar_63 : decode cX5_tar 63 = .ok (.isub, 1) := by decide +kernel
theorem dX5_tar_64 : decode cX5_tar 64 = .ok (.putfield 74, 3) := by decide +kernel
theorem dX5_tar_67 : decode cX5_tar 67 = .ok (.aload_n 0, 1) := by decide +kernel
theorem dX5_tar_68 : decode cX5_tar 68 = .ok (.getfield 43, 3) := by decide +kernel
theorem dX5_tar_71 : decode cX5_tar 71 = .ok (.getfield 77, 3) := by decide +kernel
theorem dX5_tar_74 : decode cX5_tar 74 = .ok (.iload_n 1, 1) := by decide +kernel
theorem dX5_tar_75 : decode cX5_tar 75 = .ok (.bipush 30, 2) := by decide +kernel
theorem dX5_tar_77 : decode cX5_tar 77 = .ok (.iastore, 1) := by decide +kernel
theorem dX5_tar_78 : decode cX5_tar 78 = .ok (.aload_n 0, 1) := by decide +kernel
theorem dX5_tar_79 : decode cX5_tar 79 = .ok (.getfield 43, 3) := by decide +kernel
theorem dX5_tar_82 : decode cX5_tar 82 = .ok (.getfield 100, 3) := by decide +kernel
theorem dX5_tar_85 : decode cX5_tar 85 = .ok (.iload_n 1, 1) := by decide +kernel
theorem dX5_tar_86 : decode cX5_tar 86 = .ok (.iconst 0, 1) := by decide +kernel
theorem dX5_tar_87 : decode cX5_tar 87 = .ok (.iastore, 1) := by decide +kernel
theorem dX5_tar_88 : decode cX5_tar 88 = .ok (.iload_n 2, 1) := by decide +kernel
theorem dX5_tar_89 : decode cX5_tar 89 = .ok (.ireturn, 1) := by decide +kernel
set_option maxRecDepth 20000 in
theorem ggX5_land_X5_isCoracle : GoodIn wsX5_land wsX5_isCoracle := goodIn_r _ [7, 8, 9, 10, 6, 11, 20, 21, 22, 23, 24, 25, 26, 27, 28, 29, 30, 31, 32, 33] (by decide +kernel) (by decide +kernel)
set_option maxRecDepth 20000 in
theorem gX5_land_X5_isCoracle : GoodIn wsX5_land (wsV RX5 80 RX5 yX5_isCoracle wsX5_isCoracle) := goodIn_app (goodIn_of _ (by decide +kernel)) ggX5_land_X5_isCoracle
set_option maxRecDepth 20000 in
theorem ggX5_land_X5_no : GoodIn wsX5_land wsX5_no := goodIn_r _ [15, 1, 20, 21, 22, 23, 24, 25, 26, 27, 28, 29, 30, 31, 32, 33] (by decide +kernel) (by decide +kernel)
set_option maxRecDepth 20000 in
theorem gX5_land_X5_no : GoodIn wsX5_land (wsV RX5 66 RX5 yX5_no wsX5_no) := goodIn_app (goodIn_of _ (by decide +kernel)) ggX5_land_X5_no
set_option maxRecDepth 20000 in
theorem ggX5_land_X5_isAtMarket : GoodIn wsX5_land wsX5_isAtMarket := goodIn_r _ [19, 2, 20, 21, 22, 23, 24, 25, 26, 27, 28, 29, 30, 31, 32, 33, 34, 35, 36, 37, 38, 39, 40, 41, 42, 43, 44, 45, 46] (by decide +kernel) (by decide +kernel)
set_option maxRecDepth 20000 in
theorem gX5_land_X5_isAtMarket : GoodIn wsX5_land (wsV RX5 97 RX5 yX5_isAtMarket wsX5_isAtMarket) := goodIn_app (goodIn_of _ (by decide +kernel)) ggX5_land_X5_isAtMarket
theorem dX5_land_0 : decode cX5_land 0 = .ok (.aload_n 0, 1) := by decide +kernel
theorem dX5_land_1 : decode cX5_land 1 = .ok (.iconst 0, 1) := by decide +kernel
theorem dX5_land_2 : decode cX5_land 2 = .ok (.putfield 53, 3) := by decide +kernel
theorem dX5_land_5 : decode cX5_land 5 = .ok (.aload_n 0, 1) := by decide +kernel
theorem dX5_land_6 : decode cX5_land 6 = .ok (.iload_n 1, 1) := by decide +kernel
theorem dX5_land_7 : decode cX5_land 7 = .ok (.invokevirtual 80, 3) := by decide +kernel
theorem dX5_land_10 : decode cX5_land 10 = .ok (.ifCond .ne 9, 3) := by decide +kernel
theorem dX5_land_13 : decode cX5_land 13 = .ok (.aload_n 0, 1) := by decide +kernel
theorem dX5_land_14 : decode cX5_land 14 = .ok (.iconst 1, 1) := by decide +kernel
theorem dX5_land_15 : decode cX5_land 15 = .ok (.invokevirtual 66, 3) := by decide +kernel
theorem dX5_land_18 : decode cX5_land 18 = .ok (.ireturn, 1) := by decide +kernel
theorem dX5_land_19 : decode cX5_land 19 = .ok (.aload_n 0, 1) := by decide +kernel
theorem dX5_land_20 : decode cX5_land 20 = .ok (.iload_n 1, 1) := by decide +kernel
theorem dX5_land_21 : decode cX5_land 21 = .ok (.invokevirtual 97, 3) := by decide +kernel
theorem dX5_land_24 : decode cX5_land 24 = .ok (.ifCond .ne 9, 3) := by decide +kernel
theorem dX5_land_27 : decode cX5_land 27 = .ok (.aload_n 0, 1) := by decide +kernel
theorem dX5_land_28 : decode cX5_land 28 = .ok (.iconst 2, 1) := by decide +kernel
theorem dX5_land_29 : decode cX5_land 29 = .ok (.invokevirtual 66, 3) := by decide +kernel
theorem dX5_land_32 : decode cX5_land 32 = .ok (.ireturn, 1) := by decide +kernel
theorem dX5_land_33 : decode cX5_land 33 = .ok (.aload_n 0, 1) := by decide +kernel
theorem dX5_land_34 : decode cX5_land 34 = .ok (.getfield 43, 3) := by decide +kernel
theorem dX5_land_37 : decode cX5_land 37 = .ok (.getfield 103, 3) := by decide +kernel
theorem dX5_land_40 : decode cX5_land 40 = .ok (.iload_n 1, 1) := by decide +kernel
theorem dX5_land_41 : decode cX5_land 41 = .ok (.iaload, 1) := by decide +kernel
theorem dX5_land_42 : decode cX5_land 42 = .ok (.istore_n 2, 1) := by decide +kernel
theorem dX5_land_43 : decode cX5_land 43 = .ok (.aload_n 0, 1) := by decide +kernel
theorem dX5_land_44 : decode cX5_land 44 = .ok (.getfield 43, 3) := by decide +kernel
theorem dX5_land_47 : decode cX5_land 47 = .ok (.getfield 103, 3) := by decide +kernel
theorem dX5_land_50 : decode cX5_land 50 = .ok (.iload_n 1, 1) := by decide +kernel
theorem dX5_land_51 : decode cX5_land 51 = .ok (.iconst 0, 1) := by decide +kernel
theorem dX5_land_52 : decode cX5_land 52 = .ok (.iastore, 1) := by decide +kernel
theorem dX5_land_53 : decode cX5_land 53 = .ok (.aload_n 0, 1) := by decide +kernel
theorem dX5_land_54 : decode cX5_land 54 = .ok (.getfield 43, 3) := by decide +kernel
theorem dX5_land_57 : decode cX5_land 57 = .ok (.dup, 1) := by decide +kernel
theorem dX5_land_58 : decode cX5_land 58 = .ok (.getfield 106, 3) := by decide +kernel
theorem dX5_land_61 : decode cX5_land 61 = .ok (.iload_n 2, 1) := by decide +kernel
theorem dX5_land_62 : decode cX5_land 62 = .ok (.iadd, 1) := by decide +kernel
theorem dX5_land_63 : decode cX5_land 63 = .ok (.putfield 106, 3) := by decide +kernel
theorem dX5_land_66 : decode cX5_land 66 = .ok (.aload_n 0, 1) := by decide +kernel
theorem dX5_land_67 : decode cX5_land 67 = .ok (.getfield 43, 3) := by decide +kernel
theorem dX5_land_70 : decode cX5_land 70 = .ok (.dup, 1) := by decide +kernel
theorem dX5_land_71 : decode cX5_land 71 = .ok (.getfield 74, 3) := by decide +kernel
theorem dX5_land_74 : decode cX5_land 74 = .ok (.iconst 2, 1) := by decide +kernel
theorem dX5_land_75 : decode cX5_land 75 = .ok (.iload_n 2, 1) := by decide +kernel
theorem dX5_land_76 : decode cX5_land 76 = .ok (.imul, 1) := by decide +kernel
theorem dX5_land_77 : decode cX5_land 77 = .ok (.iadd, 1) := by decide +kernel
theorem dX5_land_78 : decode cX5_land 78 = .ok (.putfield 74, 3) := by decide +kernel
theorem dX5_land_81 : decode cX5_land 81 = .ok (.iconst 2, 1) := by decide +kernel
theorem dX5_land_82 : decode cX5_land 82 = .ok (.iload_n 2, 1) := by decide +kernel
theorem dX5_land_83 : decode cX5_land 83 = .ok (.imul, 1) := by decide +kernel
theorem dX5_land_84 : decode cX5_land 84 = .ok (.ireturn, 1) := by decide +kernel
set_option maxRecDepth 20000 in
theorem ggX5_mate_X5_netOf : GoodIn wsX5_mate wsX5_netOf := goodIn_r _ [7, 8, 1, 2, 9, 10, 11, 12, 13, 14, 15, 16, 17, 18, 19, 20, 21, 22] (by decide +kernel) (by decide +kernel)
set_option maxRecDepth 20000 in
theorem gX5_mate_X5_netOf : GoodIn wsX5_mate (wsV RX5 84 RX5 yX5_netOf wsX5_netOf) := goodIn_app (goodIn_of _ (by decide +kernel)) ggX5_mate_X5_netOf
theorem dX5_mate_0 : decode cX5_mate 0 = .ok (.aload_n 0, 1) := by decide +kernel
theorem dX5_mate_1 : decode cX5_mate 1 = .ok (.iload_n 1, 1) := by decide +kernel
theorem dX5_mate_2 : decode cX5_mate 2 = .ok (.invokevirtual 84, 3) := by decide +kernel
theorem dX5_mate_5 : decode cX5_mate 5 = .ok (.istore_n 2, 1) := by decide +kernel
theorem dX5_mate_6 : decode cX5_mate 6 = .ok (.iload_n 2, 1) := by decide +kernel
theorem dX5_mate_7 : decode cX5_mate 7 = .ok (.iconst (-1), 1) := by decide +kernel
theorem dX5_mate_8 : decode cX5_mate 8 = .ok (.if_icmp .ne 7, 3) := by decide +kernel
theorem dX5_mate_11 : decode cX5_mate 11 = .ok (.iconst (-1), 1) := by decide +kernel
theorem dX5_mate_12 : decode cX5_mate 12 = .ok (.goto 18, 3) := by decide +kernel
theorem dX5_mate_15 : decode cX5_mate 15 = .ok (.aload_n 0, 1) := by decide +kernel
theorem dX5_mate_16 : decode cX5_mate 16 = .ok (.getfield 25, 3) := by decide +kernel
theorem dX5_mate_19 : decode cX5_mate 19 = .ok (.iload_n 2, 1) := by decide +kernel
theorem dX5_mate_20 : decode cX5_mate 20 = .ok (.iaload, 1) := by decide +kernel
theorem dX5_mate_21 : decode cX5_mate 21 = .ok (.aload_n 0, 1) := by decide +kernel
theorem dX5_mate_22 : decode cX5_mate 22 = .ok (.getfield 28, 3) := by decide +kernel
theorem dX5_mate_25 : decode cX5_mate 25 = .ok (.iload_n 2, 1) := by decide +kernel
theorem dX5_mate_26 : decode cX5_mate 26 = .ok (.iaload, 1) := by decide +kernel
theorem dX5_mate_27 : decode cX5_mate 27 = .ok (.iadd, 1) := by decide +kernel
theorem dX5_mate_28 : decode cX5_mate 28 = .ok (.iload_n 1, 1) := by decide +kernel
theorem dX5_mate_29 : decode cX5_mate 29 = .ok (.isub, 1) := by decide +kernel
theorem dX5_mate_30 : decode cX5_mate 30 = .ok (.ireturn, 1) := by decide +kernel
set_option maxRecDepth 20000 in
theorem ggX5_coracleTold_X5_mate : GoodIn wsX5_coracleTold wsX5_mate := goodIn_r _ [9, 10, 11, 12, 13, 14, 8, 15, 16, 17, 18, 19, 20, 21, 22, 23, 24, 25, 26, 27, 28, 29, 30] (by decide +kernel) (by decide +kernel)
set_option maxRecDepth 20000 in
theorem gX5_coracleTold_X5_mate : GoodIn wsX5_coracleTold (wsV RX5 109 RX5 yX5_mate wsX5_mate) := goodIn_app (goodIn_of _ (by decide +kernel)) ggX5_coracleTold_X5_mate
theorem dX5_coracleTold_0 : decode cX5_coracleTold 0 = .ok (.iload_n 2, 1) := by decide +kernel
theorem dX5_coracleTold_1 : decode cX5_coracleTold 1 = .ok (.tableswitch 140 0 8 #[51, 58, 65, 72, 82, 92, 102, 112, 122], 51) := by decide +kernel
theorem dX5_coracleTold_52 : decode cX5_coracleTold 52 = .ok (.aload_n 0, 1) := by decide +kernel
theorem dX5_coracleTold_53 : decode cX5_coracleTold 53 = .ok (.getfield 16, 3) := by decide +kernel
theorem dX5_coracleTold_56 : decode cX5_coracleTold 56 = .ok (.iload_n 1, 1) := by decide +kernel
theorem dX5_coracleTold_57 : decode cX5_coracleTold 57 = .ok (.iaload, 1) := by decide +kernel
theorem dX5_coracleTold_58 : decode cX5_coracleTold 58 = .ok (.ireturn, 1) := by decide +kernel
theorem dX5_coracleTold_59 : decode cX5_coracleTold 59 = .ok (.aload_n 0, 1) := by decide +kernel
theorem dX5_coracleTold_60 : decode cX5_coracleTold 60 = .ok (.getfield 19, 3) := by decide +kernel
theorem dX5_coracleTold_63 : decode cX5_coracleTold 63 = .ok (.iload_n 1, 1) := by decide +kernel
theorem dX5_coracleTold_64 : decode cX5_coracleTold 64 = .ok (.iaload, 1) := by decide +kernel
theorem dX5_coracleTold_65 : decode cX5_coracleTold 65 = .ok (.ireturn, 1) := by decide +kernel
theorem dX5_coracleTold_66 : decode cX5_coracleTold 66 = .ok (.aload_n 0, 1) := by decide +kernel
theorem dX5_coracleTold_67 : decode cX5_coracleTold 67 = .ok (.getfield 22, 3) := by decide +kernel
theorem dX5_coracleTold_70 : decode cX5_coracleTold 70 = .ok (.iload_n 1, 1) := by decide +kernel
theorem dX5_coracleTold_71 : decode cX5_coracleTold 71 = .ok (.iaload, 1) := by decide +kernel
theorem dX5_coracleTold_72 : decode cX5_coracleTold 72 = .ok (.ireturn, 1) := by decide +kernel
theorem dX5_coracleTold_73 : decode cX5_coracleTold 73 = .ok (.aload_n 0, 1) := by decide +kernel
theorem dX5_coracleTold_74 : decode cX5_coracleTold 74 = .ok (.getfield 43, 3) := by decide +kernel
theorem dX5_coracleTold_77 : decode cX5_coracleTold 77 = .ok (.getfield 94, 3) := by decide +kernel
theorem dX5_coracleTold_80 : decode cX5_coracleTold 80 = .ok (.iload_n 1, 1) := by decide +kernel
theorem dX5_coracleTold_81 : decode cX5_coracleTold 81 = .ok (.iaload, 1) := by decide +kernel
theorem dX5_coracleTold_82 : decode cX5_coracleTold 82 = .ok (.ireturn, 1) := by decide +kernel
theorem dX5_coracleTold_83 : decode cX5_coracleTold 83 = .ok (.aload_n 0, 1) := by decide +kernel
theorem dX5_coracleTold_84 : decode cX5_coracleTold 84 = .ok (.getfield 43, 3) := by decide +kernel
theorem dX5_coracleTold_87 : decode cX5_coracleTold 87 = .ok (.getfield 87, 3) := by decide +kernel
theorem dX5_coracleTold_90 : decode cX5_coracleTold 90 = .ok (.iload_n 1, 1) := by decide +kernel
theorem dX5_coracleTold_91 : decode cX5_coracleTold 91 = .ok (.iaload, 1) := by decide +kernel
theorem dX5_coracleTold_92 : decode cX5_coracleTold 92 = .ok (.ireturn, 1) := by decide +kernel
theorem dX5_coracleTold_93 : decode cX5_coracleTold 93 = .ok (.aload_n 0, 1) := by decide +kernel
theorem dX5_coracleTold_94 : decode cX5_coracleTold 94 = .ok (.getfield 43, 3) := by decide +kernel
theorem dX5_coracleTold_97 : decode cX5_coracleTold 97 = .ok (.getfield 77, 3) := by decide +kernel
theorem dX5_coracleTold_100 : decode cX5_coracleTold 100 = .ok (.iload_n 1, 1) := by decide +kernel
theorem dX5_coracleTold_101 : decode cX5_coracleTold 101 = .ok (.iaload, 1) := by decide +kernel
theorem dX5_coracleTold_102 : decode cX5_coracleTold 102 = .ok (.ireturn, 1) := by decide +kernel
theorem dX5_coracleTold_103 : decode cX5_coracleTold 103 = .ok (.aload_n 0, 1) := by decide +kernel
theorem dX5_coracleTold_104 : decode cX5_coracleTold 104 = .ok (.getfield 43, 3) := by decide +kernel
theorem dX5_coracleTold_107 : decode cX5_coracleTold 107 = .ok (.getfield 100, 3) := by decide +kernel
theorem dX5_coracleTold_110 : decode cX5_coracleTold 110 = .ok (.iload_n 1, 1) := by decide +kernel
theorem dX5_coracleTold_111 : decode cX5_coracleTold 111 = .ok (.iaload, 1) := by decide +kernel
theorem dX5_coracleTold_112 : decode cX5_coracleTold 112 = .ok (.ireturn, 1) := by decide +kernel
theorem dX5_coracleTold_113 : decode cX5_coracleTold 113 = .ok (.aload_n 0, 1) := by decide +kernel
theorem dX5_coracleTold_114 : decode cX5_coracleTold 114 = .ok (.getfield 43, 3) := by decide +kernel
theorem dX5_coracleTold_117 : decode cX5_coracleTold 117 = .ok (.getfield 103, 3) := by decide +kernel
theorem dX5_coracleTold_120 : decode cX5_coracleTold 120 = .ok (.iload_n 1, 1) := by decide +kernel
theorem dX5_coracleTold_121 : decode cX5_coracleTold 121 = .ok (.iaload, 1) := by decide +kernel
theorem dX5_coracleTold_122 : decode cX5_coracleTold 122 = .ok (.ireturn, 1) := by decide +kernel
theorem dX5_coracleTold_123 : decode cX5_coracleTold 123 = .ok (.aload_n 0, 1) := by decide +kernel
theorem dX5_coracleTold_124 : decode cX5_coracleTold 124 = .ok (.getfield 43, 3) := by decide +kernel
theorem dX5_coracleTold_127 : decode cX5_coracleTold 127 = .ok (.getfield 90, 3) := by decide +kernel
theorem dX5_coracleTold_130 : decode cX5_coracleTold 130 = .ok (.iload_n 1, 1) := by decide +kernel
theorem dX5_coracleTold_131 : decode cX5_coracleTold 131 = .ok (.baload, 1) := by decide +kernel
theorem dX5_coracleTold_132 : decode cX5_coracleTold 132 = .ok (.ifCond .eq 7, 3) := by decide +kernel
theorem dX5_coracleTold_135 : decode cX5_coracleTold 135 = .ok (.iconst 0, 1) := by decide +kernel
theorem dX5_coracleTold_136 : decode cX5_coracleTold 136 = .ok (.goto 4, 3) := by decide +kernel
theorem dX5_coracleTold_139 : decode cX5_coracleTold 139 = .ok (.iconst 1, 1) := by decide +kernel
theorem dX5_coracleTold_140 : decode cX5_coracleTold 140 = .ok (.ireturn, 1) := by decide +kernel
theorem dX5_coracleTold_141 : decode cX5_coracleTold 141 = .ok (.aload_n 0, 1) := by decide +kernel
theorem dX5_coracleTold_142 : decode cX5_coracleTold 142 = .ok (.iload_n 1, 1) := by decide +kernel
theorem dX5_coracleTold_143 : decode cX5_coracleTold 143 = .ok (.invokevirtual 109, 3) := by decide +kernel
theorem dX5_coracleTold_146 : decode cX5_coracleTold 146 = .ok (.ireturn, 1) := by decide +kernel
set_option maxRecDepth 20000 in
theorem ggX5_about_X5_isCoracle : GoodIn wsX5_about wsX5_isCoracle := goodIn_r _ [6, 7, 8, 9, 5, 10, 34, 35, 36, 37, 38, 39, 40, 41, 42, 43, 44, 45, 46, 47] (by decide +kernel) (by decide +kernel)
set_option maxRecDepth 20000 in
theorem gX5_about_X5_isCoracle : GoodIn wsX5_about (wsV RX5 80 RX5 yX5_isCoracle wsX5_isCoracle) := goodIn_app (goodIn_of _ (by decide +kernel)) ggX5_about_X5_isCoracle
set_option maxRecDepth 20000 in
theorem ggX5_about_X5_isIn : GoodIn wsX5_about wsX5_isIn := goodIn_r _ [10] (by decide +kernel) (by decide +kernel)
set_option maxRecDepth 20000 in
theorem gX5_about_X5_isIn : GoodIn wsX5_about (va_wsS RX5 59 yX5_isIn wsX5_isIn) := goodIn_app (goodIn_of _ (by decide +kernel)) ggX5_about_X5_isIn
set_option maxRecDepth 20000 in
theorem ggX5_about_X5_coracleTold : GoodIn wsX5_about wsX5_coracleTold := goodIn_r _ [14, 15, 16, 17, 18, 19, 20, 21, 5, 22, 23, 24, 25, 26, 27, 28, 29, 34, 35, 36, 37, 38, 39, 40, 41, 42, 43, 44, 45, 46, 47, 48, 49, 50, 51, 52, 53, 54, 55, 56, 57, 58, 59, 60] (by decide +kernel) (by decide +kernel)
set_option maxRecDepth 20000 in
theorem gX5_about_X5_coracleTold : GoodIn wsX5_about (wsV RX5 112 RX5 yX5_coracleTold wsX5_coracleTold) := goodIn_app (goodIn_of _ (by decide +kernel)) ggX5_about_X5_coracleTold
set_option maxRecDepth 20000 in
theorem ggX5_about_X5_no : GoodIn wsX5_about wsX5_no := goodIn_r _ [33, 1, 34, 35, 36, 37, 38, 39, 40, 41, 42, 43, 44, 45, 46, 47] (by decide +kernel) (by decide +kernel)
set_option maxRecDepth 20000 in
theorem gX5_about_X5_no : GoodIn wsX5_about (wsV RX5 66 RX5 yX5_no wsX5_no) := goodIn_app (goodIn_of _ (by decide +kernel)) ggX5_about_X5_no
theorem dX5_about_0 : decode cX5_about 0 = .ok (.aload_n 0, 1) := by decide +kernel
theorem dX5_about_1 : decode cX5_about 1 = .ok (.iconst 0, 1) := by decide +kernel
theorem dX5_about_2 : decode cX5_about 2 = .ok (.putfield 53, 3) := by decide +kernel
theorem dX5_about_5 : decode cX5_about 5 = .ok (.aload_n 0, 1) := by decide +kernel
theorem dX5_about_6 : decode cX5_about 6 = .ok (.iload_n 1, 1) := by decide +kernel
theorem dX5_about_7 : decode cX5_about 7 = .ok (.invokevirtual 80, 3) := by decide +kernel
theorem dX5_about_10 : decode cX5_about 10 = .ok (.ifCond .eq 22, 3) := by decide +kernel
theorem dX5_about_13 : decode cX5_about 13 = .ok (.iload_n 2, 1) := by decide +kernel
theorem dX5_about_14 : decode cX5_about 14 = .ok (.iconst 0, 1) := by decide +kernel
theorem dX5_about_15 : decode cX5_about 15 = .ok (.bipush 9, 2) := by decide +kernel
theorem dX5_about_17 : decode cX5_about 17 = .ok (.invokestatic 59, 3) := by decide +kernel
theorem dX5_about_20 : decode cX5_about 20 = .ok (.ifCond .eq 12, 3) := by decide +kernel
theorem dX5_about_23 : decode cX5_about 23 = .ok (.aload_n 0, 1) := by decide +kernel
theorem dX5_about_24 : decode cX5_about 24 = .ok (.iload_n 1, 1) := by decide +kernel
theorem dX5_about_25 : decode cX5_about 25 = .ok (.iload_n 2, 1) := by decide +kernel
theorem dX5_about_26 : decode cX5_about 26 = .ok (.invokevirtual 112, 3) := by decide +kernel
theorem dX5_about_29 : decode cX5_about 29 = .ok (.goto 8, 3) := by decide +kernel
theorem dX5_about_32 : decode cX5_about 32 = .ok (.aload_n 0, 1) := by decide +kernel
theorem dX5_about_33 : decode cX5_about 33 = .ok (.iconst 1, 1) := by decide +kernel
theorem dX5_about_34 : decode cX5_about 34 = .ok (.invokevirtual 66, 3) := by decide +kernel
theorem dX5_about_37 : decode cX5_about 37 = .ok (.ireturn, 1) := by decide +kernel
set_option maxRecDepth 20000 in
theorem ggX5_netTold_X4_catches : GoodIn wsX5_netTold wsX4_catches := goodIn_r _ [8, 9, 10, 11, 12, 13, 14, 15, 16, 17, 18, 7, 19, 20, 21, 22, 23, 24, 25, 40, 41, 42, 43, 44, 45, 46, 47, 48, 49, 50, 51, 52, 26, 27, 28, 29, 30, 31, 32, 33, 34, 35, 36, 37, 38, 39] (by decide +kernel) (by decide +kernel)
set_option maxRecDepth 20000 in
theorem gX5_netTold_X4_catches : GoodIn wsX5_netTold (wsV RX5 119 RX4 yX4_catches wsX4_catches) := goodIn_app (goodIn_of _ (by decide +kernel)) ggX5_netTold_X4_catches
theorem dX5_netTold_0 : decode cX5_netTold 0 = .ok (.iload_n 2, 1) := by decide +kernel
theorem dX5_netTold_1 : decode cX5_netTold 1 = .ok (.ifCond .ne 12, 3) := by decide +kernel
theorem dX5_netTold_4 : decode cX5_netTold 4 = .ok (.aload_n 0, 1) := by decide +kernel
theorem dX5_netTold_5 : decode cX5_netTold 5 = .ok (.getfield 25, 3) := by decide +kernel
theorem dX5_netTold_8 : decode cX5_netTold 8 = .ok (.iload_n 1, 1) := by decide +kernel
theorem dX5_netTold_9 : decode cX5_netTold 9 = .ok (.iaload, 1) := by decide +kernel
theorem dX5_netTold_10 : decode cX5_netTold 10 = .ok (.goto 42, 3) := by decide +kernel
theorem dX5_netTold_13 : decode cX5_netTold 13 = .ok (.iload_n 2, 1) := by decide +kernel
theorem dX5_netTold_14 : decode cX5_netTold 14 = .ok (.iconst 1, 1) := by decide +kernel
theorem dX5_netTold_15 : decode cX5_netTold 15 = .ok (.if_icmp .ne 12, 3) := by decide +kernel
theorem dX5_netTold_18 : decode cX5_netTold 18 = .ok (.aload_n 0, 1) := by decide +kernel
theorem dX5_netTold_19 : decode cX5_netTold 19 = .ok (.getfield 28, 3) := by decide +kernel
theorem dX5_netTold_22 : decode cX5_netTold 22 = .ok (.iload_n 1, 1) := by decide +kernel
theorem dX5_netTold_23 : decode cX5_netTold 23 = .ok (.iaload, 1) := by decide +kernel
theorem dX5_netTold_24 : decode cX5_netTold 24 = .ok (.goto 28, 3) := by decide +kernel
theorem dX5_netTold_27 : decode cX5_netTold 27 = .ok (.iload_n 2, 1) := by decide +kernel
theorem dX5_netTold_28 : decode cX5_netTold 28 = .ok (.iconst 2, 1) := by decide +kernel
theorem dX5_netTold_29 : decode cX5_netTold 29 = .ok (.if_icmp .ne 15, 3) := by decide +kernel
theorem dX5_netTold_32 : decode cX5_netTold 32 = .ok (.aload_n 0, 1) := by decide +kernel
theorem dX5_netTold_33 : decode cX5_netTold 33 = .ok (.getfield 43, 3) := by decide +kernel
theorem dX5_netTold_36 : decode cX5_netTold 36 = .ok (.getfield 116, 3) := by decide +kernel
theorem dX5_netTold_39 : decode cX5_netTold 39 = .ok (.iload_n 1, 1) := by decide +kernel
theorem dX5_netTold_40 : decode cX5_netTold 40 = .ok (.iaload, 1) := by decide +kernel
theorem dX5_netTold_41 : decode cX5_netTold 41 = .ok (.goto 11, 3) := by decide +kernel
theorem dX5_netTold_44 : decode cX5_netTold 44 = .ok (.aload_n 0, 1) := by decide +kernel
theorem dX5_netTold_45 : decode cX5_netTold 45 = .ok (.getfield 43, 3) := by decide +kernel
theorem dX5_netTold_48 : decode cX5_netTold 48 = .ok (.iload_n 1, 1) := by decide +kernel
theorem dX5_netTold_49 : decode cX5_netTold 49 = .ok (.invokevirtual 119, 3) := by decide +kernel
theorem dX5_netTold_52 : decode cX5_netTold 52 = .ok (.ireturn, 1) := by decide +kernel
set_option maxRecDepth 20000 in
theorem ggX5_told_X5_isNet : GoodIn wsX5_told wsX5_isNet := goodIn_r _ [6, 7, 8, 9, 5, 10, 44, 45, 46, 47, 48, 49, 50, 51, 52, 53, 54, 55, 56, 57] (by decide +kernel) (by decide +kernel)
set_option maxRecDepth 20000 in
theorem gX5_told_X5_isNet : GoodIn wsX5_told (wsV RX5 122 RX5 yX5_isNet wsX5_isNet) := goodIn_app (goodIn_of _ (by decide +kernel)) ggX5_told_X5_isNet
set_option maxRecDepth 20000 in
theorem ggX5_told_X5_isIn : GoodIn wsX5_told wsX5_isIn := goodIn_r _ [10] (by decide +kernel) (by decide +kernel)
set_option maxRecDepth 20000 in
theorem gX5_told_X5_isIn : GoodIn wsX5_told (va_wsS RX5 59 yX5_isIn wsX5_isIn) := goodIn_app (goodIn_of _ (by decide +kernel)) ggX5_told_X5_isIn
set_option maxRecDepth 20000 in
theorem ggX5_told_X5_netTold : GoodIn wsX5_told wsX5_netTold := goodIn_r _ [14, 15, 16, 17, 18, 19, 20, 21, 22, 23, 24, 25, 26, 27, 28, 29, 30, 31, 32, 33, 34, 35, 36, 37, 38, 39, 44, 45, 46, 47, 48, 49, 50, 51, 52, 53, 54, 55, 56, 57, 58, 59, 60, 61, 62, 63, 64, 65, 66, 67, 68, 69, 70] (by decide +kernel) (by decide +kernel)
set_option maxRecDepth 20000 in
theorem gX5_told_X5_netTold : GoodIn wsX5_told (wsV RX5 125 RX5 yX5_netTold wsX5_netTold) := goodIn_app (goodIn_of _ (by decide +kernel)) ggX5_told_X5_netTold
set_option maxRecDepth 20000 in
theorem ggX5_told_X5_no : GoodIn wsX5_told wsX5_no := goodIn_r _ [43, 1, 44, 45, 46, 47, 48, 49, 50, 51, 52, 53, 54, 55, 56, 57] (by decide +kernel) (by decide +kernel)
set_option maxRecDepth 20000 in
theorem gX5_told_X5_no : GoodIn wsX5_told (wsV RX5 66 RX5 yX5_no wsX5_no) := goodIn_app (goodIn_of _ (by decide +kernel)) ggX5_told_X5_no
theorem dX5_told_0 : decode cX5_told 0 = .ok (.aload_n 0, 1) := by decide +kernel
theorem dX5_told_1 : decode cX5_told 1 = .ok (.iconst 0, 1) := by decide +kernel
theorem dX5_told_2 : decode cX5_told 2 = .ok (.putfield 53, 3) := by decide +kernel
theorem dX5_told_5 : decode cX5_told 5 = .ok (.aload_n 0, 1) := by decide +kernel
theorem dX5_told_6 : decode cX5_told 6 = .ok (.iload_n 1, 1) := by decide +kernel
theorem dX5_told_7 : decode cX5_told 7 = .ok (.invokevirtual 122, 3) := by decide +kernel
theorem dX5_told_10 : decode cX5_told 10 = .ok (.ifCond .eq 21, 3) := by decide +kernel
theorem dX5_told_13 : decode cX5_told 13 = .ok (.iload_n 2, 1) := by decide +kernel
theorem dX5_told_14 : decode cX5_told 14 = .ok (.iconst 0, 1) := by decide +kernel
theorem dX5_told_15 : decode cX5_told 15 = .ok (.iconst 3, 1) := by decide +kernel
theorem dX5_told_16 : decode cX5_told 16 = .ok (.invokestatic 59, 3) := by decide +kernel
theorem dX5_told_19 : decode cX5_told 19 = .ok (.ifCond .eq 12, 3) := by decide +kernel
theorem dX5_told_22 : decode cX5_told 22 = .ok (.aload_n 0, 1) := by decide +kernel
theorem dX5_told_23 : decode cX5_told 23 = .ok (.iload_n 1, 1) := by decide +kernel
theorem dX5_told_24 : decode cX5_told 24 = .ok (.iload_n 2, 1) := by decide +kernel
theorem dX5_told_25 : decode cX5_told 25 = .ok (.invokevirtual 125, 3) := by decide +kernel
theorem dX5_told_28 : decode cX5_told 28 = .ok (.goto 8, 3) := by decide +kernel
theorem dX5_told_31 : decode cX5_told 31 = .ok (.aload_n 0, 1) := by decide +kernel
theorem dX5_told_32 : decode cX5_told 32 = .ok (.iconst 1, 1) := by decide +kernel
theorem dX5_told_33 : decode cX5_told 33 = .ok (.invokevirtual 66, 3) := by decide +kernel
theorem dX5_told_36 : decode cX5_told 36 = .ok (.ireturn, 1) := by decide +kernel
theorem dX5_reachTold_0 : decode cX5_reachTold 0 = .ok (.iload_n 2, 1) := by decide +kernel
