theorem dX4_find_0 : decode cX4_find 0 = .ok (.aload_n 0, 1) := by decide +kernel
theorem dX4_find_1 : decode cX4_find 1 = .ok (.iconst 0, 1) := by decide +kernel
theorem dX4_find_2 : decode cX4_find 2 = .ok (.putfield 69, 3) := by decide +kernel
theorem dX4_find_5 : decode cX4_find 5 = .ok (.iload_n 1, 1) := by decide +kernel
theorem dX4_find_6 : decode cX4_find 6 = .ok (.invokestatic 104, 3) := by decide +kernel
theorem dX4_find_9 : decode cX4_find 9 = .ok (.ifCond .ne 9, 3) := by decide +kernel
theorem dX4_find_12 : decode cX4_find 12 = .ok (.aload_n 0, 1) := by decide +kernel
theorem dX4_find_13 : decode cX4_find 13 = .ok (.iconst 1, 1) := by decide +kernel
theorem dX4_find_14 : decode cX4_find 14 = .ok (.invokevirtual 96, 3) := by decide +kernel
theorem dX4_find_17 : decode cX4_find 17 = .ok (.ireturn, 1) := by decide +kernel
theorem dX4_find_18 : decode cX4_find 18 = .ok (.iload_n 2, 1) := by decide +kernel
theorem dX4_find_19 : decode cX4_find 19 = .ok (.iconst 0, 1) := by decide +kernel
theorem dX4_find_20 : decode cX4_find 20 = .ok (.bipush 9, 2) := by decide +kernel
theorem dX4_find_22 : decode cX4_find 22 = .ok (.invokestatic 72, 3) := by decide +kernel
theorem dX4_find_25 : decode cX4_find 25 = .ok (.ifCond .ne 9, 3) := by decide +kernel
theorem dX4_find_28 : decode cX4_find 28 = .ok (.aload_n 0, 1) := by decide +kernel
theorem dX4_find_29 : decode cX4_find 29 = .ok (.iconst 2, 1) := by decide +kernel
theorem dX4_find_30 : decode cX4_find 30 = .ok (.invokevirtual 96, 3) := by decide +kernel
theorem dX4_find_33 : decode cX4_find 33 = .ok (.ireturn, 1) := by decide +kernel
theorem dX4_find_34 : decode cX4_find 34 = .ok (.iconst 0, 1) := by decide +kernel
theorem dX4_find_35 : decode cX4_find 35 = .ok (.istore_n 3, 1) := by decide +kernel
theorem dX4_find_36 : decode cX4_find 36 = .ok (.iload_n 3, 1) := by decide +kernel
theorem dX4_find_37 : decode cX4_find 37 = .ok (.aload_n 0, 1) := by decide +kernel
theorem dX4_find_38 : decode cX4_find 38 = .ok (.getfield 76, 3) := by decide +kernel
theorem dX4_find_41 : decode cX4_find 41 = .ok (.if_icmp .ge 29, 3) := by decide +kernel
theorem dX4_find_44 : decode cX4_find 44 = .ok (.aload_n 0, 1) := by decide +kernel
theorem dX4_find_45 : decode cX4_find 45 = .ok (.getfield 38, 3) := by decide +kernel
theorem dX4_find_48 : decode cX4_find 48 = .ok (.iload_n 3, 1) := by decide +kernel
theorem dX4_find_49 : decode cX4_find 49 = .ok (.iaload, 1) := by decide +kernel
theorem dX4_find_50 : decode cX4_find 50 = .ok (.iload_n 1, 1) := by decide +kernel
theorem dX4_find_51 : decode cX4_find 51 = .ok (.if_icmp .ne 13, 3) := by decide +kernel
theorem dX4_find_54 : decode cX4_find 54 = .ok (.aload_n 0, 1) := by decide +kernel
theorem dX4_find_55 : decode cX4_find 55 = .ok (.iload_n 3, 1) := by decide +kernel
theorem dX4_find_56 : decode cX4_find 56 = .ok (.invokevirtual 107, 3) := by decide +kernel
theorem dX4_find_59 : decode cX4_find 59 = .ok (.ifCond .eq 5, 3) := by decide +kernel
theorem dX4_find_62 : decode cX4_find 62 = .ok (.iload_n 3, 1) := by decide +kernel
theorem dX4_find_63 : decode cX4_find 63 = .ok (.ireturn, 1) := by decide +kernel
theorem dX4_find_64 : decode cX4_find 64 = .ok (.iinc 3 1, 3) := by decide +kernel
theorem dX4_find_67 : decode cX4_find 67 = .ok (.goto (-31), 3) := by decide +kernel
theorem dX4_find_70 : decode cX4_find 70 = .ok (.aload_n 0, 1) := by decide +kernel
theorem dX4_find_71 : decode cX4_find 71 = .ok (.getfield 76, 3) := by decide +kernel
theorem dX4_find_74 : decode cX4_find 74 = .ok (.bipush 30, 2) := by decide +kernel
theorem dX4_find_76 : decode cX4_find 76 = .ok (.if_icmp .ne 9, 3) := by decide +kernel
theorem dX4_find_79 : decode cX4_find 79 = .ok (.aload_n 0, 1) := by decide +kernel
theorem dX4_find_80 : decode cX4_find 80 = .ok (.iconst 3, 1) := by decide +kernel
theorem dX4_find_81 : decode cX4_find 81 = .ok (.invokevirtual 96, 3) := by decide +kernel
theorem dX4_find_84 : decode cX4_find 84 = .ok (.ireturn, 1) := by decide +kernel
theorem dX4_find_85 : decode cX4_find 85 = .ok (.iconst 0, 1) := by decide +kernel
theorem dX4_find_86 : decode cX4_find 86 = .ok (.istore_n 3, 1) := by decide +kernel
theorem dX4_find_87 : decode cX4_find 87 = .ok (.iload_n 3, 1) := by decide +kernel
theorem dX4_find_88 : decode cX4_find 88 = .ok (.aload_n 0, 1) := by decide +kernel
theorem dX4_find_89 : decode cX4_find 89 = .ok (.getfield 86, 3) := by decide +kernel
theorem dX4_find_92 : decode cX4_find 92 = .ok (.if_icmp .ge 29, 3) := by decide +kernel
theorem dX4_find_95 : decode cX4_find 95 = .ok (.aload_n 0, 1) := by decide +kernel
theorem dX4_find_96 : decode cX4_find 96 = .ok (.getfield 32, 3) := by decide +kernel
theorem dX4_find_99 : decode cX4_find 99 = .ok (.bipush 30, 2) := by decide +kernel
theorem dX4_find_101 : decode cX4_find 101 = .ok (.aload_n 0, 1) := by decide +kernel
theorem dX4_find_102 : decode cX4_find 102 = .ok (.getfield 76, 3) := by decide +kernel
theorem dX4_find_105 : decode cX4_find 105 = .ok (.imul, 1) := by decide +kernel
theorem dX4_find_106 : decode cX4_find 106 = .ok (.iload_n 3, 1) := by decide +kernel
theorem dX4_find_107 : decode cX4_find 107 = .ok (.iadd, 1) := by decide +kernel
theorem dX4_find_108 : decode cX4_find 108 = .ok (.aload_n 0, 1) := by decide +kernel
theorem dX4_find_109 : decode cX4_find 109 = .ok (.getfield 7, 3) := by decide +kernel
theorem dX4_find_112 : decode cX4_find 112 = .ok (.iload_n 3, 1) := by decide +kernel
theorem dX4_find_113 : decode cX4_find 113 = .ok (.iaload, 1) := by decide +kernel
theorem dX4_find_114 : decode cX4_find 114 = .ok (.iastore, 1) := by decide +kernel
theorem dX4_find_115 : decode cX4_find 115 = .ok (.iinc 3 1, 3) := by decide +kernel
theorem dX4_find_118 : decode cX4_find 118 = .ok (.goto (-31), 3) := by decide +kernel
theorem dX4_find_121 : decode cX4_find 121 = .ok (.aload_n 0, 1) := by decide +kernel
theorem dX4_find_122 : decode cX4_find 122 = .ok (.getfield 35, 3) := by decide +kernel
theorem dX4_find_125 : decode cX4_find 125 = .ok (.aload_n 0, 1) := by decide +kernel
theorem dX4_find_126 : decode cX4_find 126 = .ok (.getfield 76, 3) := by decide +kernel
theorem dX4_find_129 : decode cX4_find 129 = .ok (.aload_n 0, 1) := by decide +kernel
theorem dX4_find_130 : decode cX4_find 130 = .ok (.getfield 86, 3) := by decide +kernel
theorem dX4_find_133 : decode cX4_find 133 = .ok (.iastore, 1) := by decide +kernel
theorem dX4_find_134 : decode cX4_find 134 = .ok (.aload_n 0, 1) := by decide +kernel
theorem dX4_find_135 : decode cX4_find 135 = .ok (.getfield 38, 3) := by decide +kernel
theorem dX4_find_138 : decode cX4_find 138 = .ok (.aload_n 0, 1) := by decide +kernel
theorem dX4_find_139 : decode cX4_find 139 = .ok (.getfield 76, 3) := by decide +kernel
theorem dX4_find_142 : decode cX4_find 142 = .ok (.iload_n 1, 1) := by decide +kernel
theorem dX4_find_143 : decode cX4_find 143 = .ok (.iastore, 1) := by decide +kernel
theorem dX4_find_144 : decode cX4_find 144 = .ok (.aload_n 0, 1) := by decide +kernel
theorem dX4_find_145 : decode cX4_find 145 = .ok (.getfield 41, 3) := by decide +kernel
theorem dX4_find_148 : decode cX4_find 148 = .ok (.aload_n 0, 1) := by decide +kernel
theorem dX4_find_149 : decode cX4_find 149 = .ok (.getfield 76, 3) := by decide +kernel
theorem dX4_find_152 : decode cX4_find 152 = .ok (.iload_n 2, 1) := by decide +kernel
theorem dX4_find_153 : decode cX4_find 153 = .ok (.iastore, 1) := by decide +kernel
theorem dX4_find_154 : decode cX4_find 154 = .ok (.aload_n 0, 1) := by decide +kernel
theorem dX4_find_155 : decode cX4_find 155 = .ok (.getfield 44, 3) := by decide +kernel
theorem dX4_find_158 : decode cX4_find 158 = .ok (.aload_n 0, 1) := by decide +kernel
theorem dX4_find_159 : decode cX4_find 159 = .ok (.getfield 76, 3) := by decide +kernel
theorem dX4_find_162 : decode cX4_find 162 = .ok (.aload_n 0, 1) := by decide +kernel
theorem dX4_find_163 : decode cX4_find 163 = .ok (.getfield 110, 3) := by decide +kernel
theorem dX4_find_166 : decode cX4_find 166 = .ok (.iastore, 1) := by decide +kernel
theorem dX4_find_167 : decode cX4_find 167 = .ok (.aload_n 0, 1) := by decide +kernel
theorem dX4_find_168 : decode cX4_find 168 = .ok (.getfield 57, 3) := by decide +kernel
theorem dX4_find_171 : decode cX4_find 171 = .ok (.aload_n 0, 1) := by decide +kernel
theorem dX4_find_172 : decode cX4_find 172 = .ok (.getfield 76, 3) := by decide +kernel
theorem dX4_find_175 : decode cX4_find 175 = .ok (.aload_n 0, 1) := by decide +kernel
theorem dX4_find_176 : decode cX4_find 176 = .ok (.invokevirtual 100, 3) := by decide +kernel
theorem dX4_find_179 : decode cX4_find 179 = .ok (.bastore, 1) := by decide +kernel
theorem dX4_find_180 : decode cX4_find 180 = .ok (.aload_n 0, 1) := by decide +kernel
theorem dX4_find_181 : decode cX4_find 181 = .ok (.dup, 1) := by decide +kernel
theorem dX4_find_182 : decode cX4_find 182 = .ok (.getfield 76, 3) := by decide +kernel
theorem dX4_find_185 : decode cX4_find 185 = .ok (.iconst 1, 1) := by decide +kernel
theorem dX4_find_186 : decode cX4_find 186 = .ok (.iadd, 1) := by decide +kernel
theorem dX4_find_187 : decode cX4_find 187 = .ok (.putfield 76, 3) := by decide +kernel
theorem dX4_find_190 : decode cX4_find 190 = .ok (.aload_n 0, 1) := by decide +kernel
theorem dX4_find_191 : decode cX4_find 191 = .ok (.getfield 76, 3) := by decide +kernel
theorem dX4_find_194 : decode cX4_find 194 = .ok (.iconst 1, 1) := by decide +kernel
theorem dX4_find_195 : decode cX4_find 195 = .ok (.isub, 1) := by decide +kernel
theorem dX4_find_196 : decode cX4_find 196 = .ok (.ireturn, 1) := by decide +kernel
set_option maxRecDepth 20000 in
theorem ggX4_setRank_X4_isPage : GoodIn wsX4_setRank wsX4_isPage := goodIn_r _ [7, 8, 9, 10, 6, 11, 16, 17, 18, 19, 20, 21, 22, 23, 24, 25, 26, 27, 28, 29, 30, 31, 32, 33, 34, 35, 36, 37, 38, 39, 40, 41] (by decide +kernel) (by decide +kernel)
set_option maxRecDepth 20000 in
theorem gX4_setRank_X4_isPage : GoodIn wsX4_setRank (wsV RX4 79 RX4 yX4_isPage wsX4_isPage) := goodIn_app (goodIn_of _ (by decide +kernel)) ggX4_setRank_X4_isPage
set_option maxRecDepth 20000 in
theorem ggX4_setRank_X4_fails : GoodIn wsX4_setRank wsX4_fails := goodIn_r _ [15, 1, 16, 17, 18, 19, 20, 21, 22, 23, 24, 25, 26, 27, 28, 29, 30, 31, 32, 33, 34, 35, 36, 37, 38, 39, 40, 41] (by decide +kernel) (by decide +kernel)
set_option maxRecDepth 20000 in
theorem gX4_setRank_X4_fails : GoodIn wsX4_setRank (wsV RX4 96 RX4 yX4_fails wsX4_fails) := goodIn_app (goodIn_of _ (by decide +kernel)) ggX4_setRank_X4_fails
set_option maxRecDepth 20000 in
theorem ggX4_setRank_X4_in : GoodIn wsX4_setRank wsX4_in := goodIn_r _ [11] (by decide +kernel) (by decide +kernel)
set_option maxRecDepth 20000 in
theorem gX4_setRank_X4_in : GoodIn wsX4_setRank (va_wsS RX4 72 yX4_in wsX4_in) := goodIn_app (goodIn_of _ (by decide +kernel)) ggX4_setRank_X4_in
theorem dX4_setRank_0 : decode cX4_setRank 0 = .ok (.aload_n 0, 1) := by decide +kernel
theorem dX4_setRank_1 : decode cX4_setRank 1 = .ok (.iconst 0, 1) := by decide +kernel
theorem dX4_setRank_2 : decode cX4_setRank 2 = .ok (.putfield 69, 3) := by decide +kernel
theorem dX4_setRank_5 : decode cX4_setRank 5 = .ok (.aload_n 0, 1) := by decide +kernel
theorem dX4_setRank_6 : decode cX4_setRank 6 = .ok (.iload_n 1, 1) := by decide +kernel
theorem dX4_setRank_7 : decode cX4_setRank 7 = .ok (.invokevirtual 79, 3) := by decide +kernel
theorem dX4_setRank_10 : decode cX4_setRank 10 = .ok (.ifCond .ne 9, 3) := by decide +kernel
theorem dX4_setRank_13 : decode cX4_setRank 13 = .ok (.aload_n 0, 1) := by decide +kernel
theorem dX4_setRank_14 : decode cX4_setRank 14 = .ok (.iconst 1, 1) := by decide +kernel
theorem dX4_setRank_15 : decode cX4_setRank 15 = .ok (.invokevirtual 96, 3) := by decide +kernel
theorem dX4_setRank_18 : decode cX4_setRank 18 = .ok (.ireturn, 1) := by decide +kernel
theorem dX4_setRank_19 : decode cX4_setRank 19 = .ok (.iload_n 2, 1) := by decide +kernel
theorem dX4_setRank_20 : decode cX4_setRank 20 = .ok (.iconst 0, 1) := by decide +kernel
theorem dX4_setRank_21 : decode cX4_setRank 21 = .ok (.bipush 9, 2) := by decide +kernel
theorem dX4_setRank_23 : decode cX4_setRank 23 = .ok (.invokestatic 72, 3) := by decide +kernel
theorem dX4_setRank_26 : decode cX4_setRank 26 = .ok (.ifCond .ne 9, 3) := by decide +kernel
theorem dX4_setRank_29 : decode cX4_setRank 29 = .ok (.aload_n 0, 1) := by decide +kernel
theorem dX4_setRank_30 : decode cX4_setRank 30 = .ok (.iconst 2, 1) := by decide +kernel
theorem dX4_setRank_31 : decode cX4_setRank 31 = .ok (.invokevirtual 96, 3) := by decide +kernel
theorem dX4_setRank_34 : decode cX4_setRank 34 = .ok (.ireturn, 1) := by decide +kernel
theorem dX4_setRank_35 : decode cX4_setRank 35 = .ok (.aload_n 0, 1) := by decide +kernel
theorem dX4_setRank_36 : decode cX4_setRank 36 = .ok (.getfield 41, 3) := by decide +kernel
theorem dX4_setRank_39 : decode cX4_setRank 39 = .ok (.iload_n 1, 1) := by decide +kernel
theorem dX4_setRank_40 : decode cX4_setRank 40 = .ok (.iaload, 1) := by decide +kernel
theorem dX4_setRank_41 : decode cX4_setRank 41 = .ok (.istore_n 3, 1) := by decide +kernel
theorem dX4_setRank_42 : decode cX4_setRank 42 = .ok (.aload_n 0, 1) := by decide +kernel
theorem dX4_setRank_43 : decode cX4_setRank 43 = .ok (.getfield 41, 3) := by decide +kernel
theorem dX4_setRank_46 : decode cX4_setRank 46 = .ok (.iload_n 1, 1) := by decide +kernel
theorem dX4_setRank_47 : decode cX4_setRank 47 = .ok (.iload_n 2, 1) := by decide +kernel
theorem dX4_setRank_48 : decode cX4_setRank 48 = .ok (.iastore, 1) := by decide +kernel
theorem dX4_setRank_49 : decode cX4_setRank 49 = .ok (.iload_n 3, 1) := by decide +kernel
theorem dX4_setRank_50 : decode cX4_setRank 50 = .ok (.ireturn, 1) := by decide +kernel
theorem dX4_pages_0 : decode cX4_pages 0 = .ok (.aload_n 0, 1) := by decide +kernel
theorem dX4_pages_1 : decode cX4_pages 1 = .ok (.iconst 0, 1) := by decide +kernel
theorem dX4_pages_2 : decode cX4_pages 2 = .ok (.putfield 69, 3) := by decide +kernel
theorem dX4_pages_5 : decode cX4_pages 5 = .ok (.aload_n 0, 1) := by decide +kernel
theorem dX4_pages_6 : decode cX4_pages 6 = .ok (.getfield 76, 3) := by decide +kernel
theorem dX4_pages_9 : decode cX4_pages 9 = .ok (.ireturn, 1) := by decide +kernel
theorem dX4_counts_0 : decode cX4_counts 0 = .ok (.aload_n 0, 1) := by decide +kernel
theorem dX4_counts_1 : decode cX4_counts 1 = .ok (.getfield 53, 3) := by decide +kernel
theorem dX4_counts_4 : decode cX4_counts 4 = .ok (.iload_n 1, 1) := by decide +kernel
theorem dX4_counts_5 : decode cX4_counts 5 = .ok (.baload, 1) := by decide +kernel
theorem dX4_counts_6 : decode cX4_counts 6 = .ok (.ifCond .ne 16, 3) := by decide +kernel
theorem dX4_counts_9 : decode cX4_counts 9 = .ok (.aload_n 0, 1) := by decide +kernel
theorem dX4_counts_10 : decode cX4_counts 10 = .ok (.getfield 57, 3) := by decide +kernel
theorem dX4_counts_13 : decode cX4_counts 13 = .ok (.iload_n 1, 1) := by decide +kernel
theorem dX4_counts_14 : decode cX4_counts 14 = .ok (.baload, 1) := by decide +kernel
theorem dX4_counts_15 : decode cX4_counts 15 = .ok (.ifCond .ne 7, 3) := by decide +kernel
theorem dX4_counts_18 : decode cX4_counts 18 = .ok (.iconst 1, 1) := by decide +kernel
theorem dX4_counts_19 : decode cX4_counts 19 = .ok (.goto 4, 3) := by decide +kernel
theorem dX4_counts_22 : decode cX4_counts 22 = .ok (.iconst 0, 1) := by decide +kernel
theorem dX4_counts_23 : decode cX4_counts 23 = .ok (.ireturn, 1) := by decide +kernel
set_option maxRecDepth 20000 in
theorem ggX4_dueAt_X4_isAsked : GoodIn wsX4_dueAt wsX4_isAsked := goodIn_r _ [6, 7, 8, 9, 10, 5, 11, 12, 13, 14, 15, 22, 23, 24, 25, 26, 27, 28, 29, 30, 31, 32, 33, 34, 35, 36, 37, 38, 39, 40, 41, 42, 43, 44, 45, 46, 47] (by decide +kernel) (by decide +kernel)
set_option maxRecDepth 20000 in
theorem gX4_dueAt_X4_isAsked : GoodIn wsX4_dueAt (wsV RX4 113 RX4 yX4_isAsked wsX4_isAsked) := goodIn_app (goodIn_of _ (by decide +kernel)) ggX4_dueAt_X4_isAsked
set_option maxRecDepth 20000 in
theorem ggX4_dueAt_X4_counts : GoodIn wsX4_dueAt wsX4_counts := goodIn_r _ [19, 20, 21, 22, 23, 24, 25, 26, 27, 28, 29, 30, 31, 32, 33, 34, 35, 36, 37, 38, 39, 40, 41, 42, 43, 44, 45, 46, 47] (by decide +kernel) (by decide +kernel)
set_option maxRecDepth 20000 in
theorem gX4_dueAt_X4_counts : GoodIn wsX4_dueAt (wsV RX4 116 RX4 yX4_counts wsX4_counts) := goodIn_app (goodIn_of _ (by decide +kernel)) ggX4_dueAt_X4_counts
theorem dX4_dueAt_0 : decode cX4_dueAt 0 = .ok (.aload_n 0, 1) := by decide +kernel
theorem dX4_dueAt_1 : decode cX4_dueAt 1 = .ok (.iload_n 1, 1) := by decide +kernel
theorem dX4_dueAt_2 : decode cX4_dueAt 2 = .ok (.invokevirtual 113, 3) := by decide +kernel
theorem dX4_dueAt_5 : decode cX4_dueAt 5 = .ok (.ifCond .ne 7, 3) := by decide +kernel
theorem dX4_dueAt_8 : decode cX4_dueAt 8 = .ok (.iconst 0, 1) := by decide +kernel
theorem dX4_dueAt_9 : decode cX4_dueAt 9 = .ok (.goto 21, 3) := by decide +kernel
theorem dX4_dueAt_12 : decode cX4_dueAt 12 = .ok (.aload_n 0, 1) := by decide +kernel
theorem dX4_dueAt_13 : decode cX4_dueAt 13 = .ok (.iload_n 1, 1) := by decide +kernel
theorem dX4_dueAt_14 : decode cX4_dueAt 14 = .ok (.invokevirtual 116, 3) := by decide +kernel
theorem dX4_dueAt_17 : decode cX4_dueAt 17 = .ok (.ifCond .eq 12, 3) := by decide +kernel
theorem dX4_dueAt_20 : decode cX4_dueAt 20 = .ok (.aload_n 0, 1) := by decide +kernel
theorem dX4_dueAt_21 : decode cX4_dueAt 21 = .ok (.getfield 44, 3) := by decide +kernel
theorem dX4_dueAt_24 : decode cX4_dueAt 24 = .ok (.iload_n 1, 1) := by decide +kernel
theorem dX4_dueAt_25 : decode cX4_dueAt 25 = .ok (.iaload, 1) := by decide +kernel
theorem dX4_dueAt_26 : decode cX4_dueAt 26 = .ok (.goto 4, 3) := by decide +kernel
theorem dX4_dueAt_29 : decode cX4_dueAt 29 = .ok (.iconst (-1), 1) := by decide +kernel
theorem dX4_dueAt_30 : decode cX4_dueAt 30 = .ok (.ireturn, 1) := by decide +kernel
set_option maxRecDepth 20000 in
theorem ggX4_visits_X4_isAsked : GoodIn wsX4_visits wsX4_isAsked := goodIn_r _ [6, 7, 8, 9, 10, 5, 11, 12, 13, 14, 15, 16, 17, 18, 19, 20, 21, 22, 23, 24, 25, 26, 27, 28, 29, 30, 31, 32, 33, 34, 35, 36, 37, 38, 39, 40, 41] (by decide +kernel) (by decide +kernel)
set_option maxRecDepth 20000 in
theorem gX4_visits_X4_isAsked : GoodIn wsX4_visits (wsV RX4 113 RX4 yX4_isAsked wsX4_isAsked) := goodIn_app (goodIn_of _ (by decide +kernel)) ggX4_visits_X4_isAsked
theorem dX4_visits_0 : decode cX4_visits 0 = .ok (.aload_n 0, 1) := by decide +kernel
theorem dX4_visits_1 : decode cX4_visits 1 = .ok (.iload_n 1, 1) := by decide +kernel
theorem dX4_visits_2 : decode cX4_visits 2 = .ok (.invokevirtual 113, 3) := by decide +kernel
theorem dX4_visits_5 : decode cX4_visits 5 = .ok (.ifCond .eq 12, 3) := by decide +kernel
theorem dX4_visits_8 : decode cX4_visits 8 = .ok (.aload_n 0, 1) := by decide +kernel
theorem dX4_visits_9 : decode cX4_visits 9 = .ok (.getfield 47, 3) := by decide +kernel
theorem dX4_visits_12 : decode cX4_visits 12 = .ok (.iload_n 1, 1) := by decide +kernel
theorem dX4_visits_13 : decode cX4_visits 13 = .ok (.iaload, 1) := by decide +kernel
theorem dX4_visits_14 : decode cX4_visits 14 = .ok (.goto 4, 3) := by decide +kernel
theorem dX4_visits_17 : decode cX4_visits 17 = .ok (.iconst 0, 1) := by decide +kernel
theorem dX4_visits_18 : decode cX4_visits 18 = .ok (.ireturn, 1) := by decide +kernel
set_option maxRecDepth 20000 in
theorem ggX4_changes_X4_isAsked : GoodIn wsX4_changes wsX4_isAsked := goodIn_r _ [6, 7, 8, 9, 10, 5, 11, 12, 13, 14, 15, 16, 17, 18, 19, 20, 21, 22, 23, 24, 25, 26, 27, 28, 29, 30, 31, 32, 33, 34, 35, 36, 37, 38, 39, 40, 41] (by decide +kernel) (by decide +kernel)
set_option maxRecDepth 20000 in
theorem gX4_changes_X4_isAsked : GoodIn wsX4_changes (wsV RX4 113 RX4 yX4_isAsked wsX4_isAsked) := goodIn_app (goodIn_of _ (by decide +kernel)) ggX4_changes_X4_isAsked
theorem dX4_changes_0 : decode cX4_changes 0 = .ok (.aload_n 0, 1) := by decide +kernel
theorem dX4_changes_1 : decode cX4_changes 1 = .ok (.iload_n 1, 1) := by decide +kernel
theorem dX4_changes_2 : decode cX4_changes 2 = .ok (.invokevirtual 113, 3) := by decide +kernel
theorem dX4_changes_5 : decode cX4_changes 5 = .ok (.ifCond .eq 12, 3) := by decide +kernel
theorem dX4_changes_8 : decode cX4_changes 8 = .ok (.aload_n 0, 1) := by decide +kernel
theorem dX4_changes_9 : decode cX4_changes 9 = .ok (.getfield 50, 3) := by decide +kernel
theorem dX4_changes_12 : decode cX4_changes 12 = .ok (.iload_n 1, 1) := by decide +kernel
theorem dX4_changes_13 : decode cX4_changes 13 = .ok (.iaload, 1) := by decide +kernel
theorem dX4_changes_14 : decode cX4_changes 14 = .ok (.goto 4, 3) := by decide +kernel
theorem dX4_changes_17 : decode cX4_changes 17 = .ok (.iconst 0, 1) := by decide +kernel
theorem dX4_changes_18 : decode cX4_changes 18 = .ok (.ireturn, 1) := by decide +kernel
theorem dX4_left_0 : decode cX4_left 0 = .ok (.aload_n 0, 1) := by decide +kernel
theorem dX4_left_1 : decode cX4_left 1 = .ok (.getfield 119, 3) := by decide +kernel
theorem dX4_left_4 : decode cX4_left 4 = .ok (.aload_n 0, 1) := by decide +kernel
theorem dX4_left_5 : decode cX4_left 5 = .ok (.getfield 110, 3) := by decide +kernel
theorem dX4_left_8 : decode cX4_left 8 = .ok (.bipush 100, 2) := by decide +kernel
theorem dX4_left_10 : decode cX4_left 10 = .ok (.idiv, 1) := by decide +kernel
theorem dX4_left_11 : decode cX4_left 11 = .ok (.if_icmp .ne 10, 3) := by decide +kernel
theorem dX4_left_14 : decode cX4_left 14 = .ok (.aload_n 0, 1) := by decide +kernel
theorem dX4_left_15 : decode cX4_left 15 = .ok (.getfield 122, 3) := by decide +kernel
theorem dX4_left_18 : decode cX4_left 18 = .ok (.goto 4, 3) := by decide +kernel
theorem dX4_left_21 : decode cX4_left 21 = .ok (.iconst 0, 1) := by decide +kernel
theorem dX4_left_22 : decode cX4_left 22 = .ok (.istore_n 1, 1) := by decide +kernel
theorem dX4_left_23 : decode cX4_left 23 = .ok (.iload_n 1, 1) := by decide +kernel
theorem dX4_left_24 : decode cX4_left 24 = .ok (.aload_n 0, 1) := by decide +kernel
theorem dX4_left_25 : decode cX4_left 25 = .ok (.getfield 29, 3) := by decide +kernel
theorem dX4_left_28 : decode cX4_left 28 = .ok (.if_icmp .ge 12, 3) := by decide +kernel
theorem dX4_left_31 : decode cX4_left 31 = .ok (.aload_n 0, 1) := by decide +kernel
theorem dX4_left_32 : decode cX4_left 32 = .ok (.getfield 29, 3) := by decide +kernel
theorem dX4_left_35 : decode cX4_left 35 = .ok (.iload_n 1, 1) := by decide +kernel
theorem dX4_left_36 : decode cX4_left 36 = .ok (.isub, 1) := by decide +kernel
theorem dX4_left_37 : decode cX4_left 37 = .ok (.goto 4, 3) := by decide +kernel
theorem dX4_left_40 : decode cX4_left 40 = .ok (.iconst 0, 1) := by decide +kernel
theorem dX4_left_41 : decode cX4_left 41 = .ok (.ireturn, 1) := by decide +kernel
set_option maxRecDepth 20000 in
theorem ggX4_isOpen_X4_counts : GoodIn wsX4_isOpen wsX4_counts := goodIn_r _ [9, 10, 11, 19, 20, 21, 22, 23, 24, 25, 26, 27, 28, 29, 30, 31, 32, 33, 34, 35, 36, 37, 38, 39, 40, 41, 42, 43, 44] (by decide +kernel) (by decide +kernel)
set_option maxRecDepth 20000 in
theorem gX4_isOpen_X4_counts : GoodIn wsX4_isOpen (wsV RX4 116 RX4 yX4_counts wsX4_counts) := goodIn_app (goodIn_of _ (by decide +kernel)) ggX4_isOpen_X4_counts
set_option maxRecDepth 20000 in
theorem ggX4_isOpen_X4_left : GoodIn wsX4_isOpen wsX4_left := goodIn_r _ [15, 16, 2, 17, 18, 19, 20, 21, 22, 23, 24, 25, 26, 27, 28, 29, 30, 31, 32, 33, 34, 35, 36, 37, 38, 39, 40, 41, 42, 43, 44] (by decide +kernel) (by decide +kernel)
set_option maxRecDepth 20000 in
theorem gX4_isOpen_X4_left : GoodIn wsX4_isOpen (wsV RX4 125 RX4 yX4_left wsX4_left) := goodIn_app (goodIn_of _ (by decide +kernel)) ggX4_isOpen_X4_left
theorem dX4_isOpen_0 : decode cX4_isOpen 0 = .ok (.aload_n 0, 1) := by decide +kernel
theorem dX4_isOpen_1 : decode cX4_isOpen 1 = .ok (.iload_n 1, 1) := by decide +kernel
theorem dX4_isOpen_2 : decode cX4_isOpen 2 = .ok (.invokevirtual 116, 3) := by decide +kernel
theorem dX4_isOpen_5 : decode cX4_isOpen 5 = .ok (.ifCond .eq 45, 3) := by decide +kernel
theorem dX4_isOpen_8 : decode cX4_isOpen 8 = .ok (.aload_n 0, 1) := by decide +kernel
theorem dX4_isOpen_9 : decode cX4_isOpen 9 = .ok (.getfield 44, 3) := by decide +kernel
theorem dX4_isOpen_12 : decode cX4_isOpen 12 = .ok (.iload_n 1, 1) := by decide +kernel
theorem dX4_isOpen_13 : decode cX4_isOpen 13 = .ok (.iaload, 1) := by decide +kernel
theorem dX4_isOpen_14 : decode cX4_isOpen 14 = .ok (.aload_n 0, 1) := by decide +kernel
theorem dX4_isOpen_15 : decode cX4_isOpen 15 = .ok (.getfield 110, 3) := by decide +kernel
theorem dX4_isOpen_18 : decode cX4_isOpen 18 = .ok (.if_icmp .gt 32, 3) := by decide +kernel
theorem dX4_isOpen_21 : decode cX4_isOpen 21 = .ok (.aload_n 0, 1) := by decide +kernel
theorem dX4_isOpen_22 : decode cX4_isOpen 22 = .ok (.getfield 19, 3) := by decide +kernel
theorem dX4_isOpen_25 : decode cX4_isOpen 25 = .ok (.aload_n 0, 1) := by decide +kernel
theorem dX4_isOpen_26 : decode cX4_isOpen 26 = .ok (.getfield 38, 3) := by decide +kernel
theorem dX4_isOpen_29 : decode cX4_isOpen 29 = .ok (.iload_n 1, 1) := by decide +kernel
theorem dX4_isOpen_30 : decode cX4_isOpen 30 = .ok (.iaload, 1) := by decide +kernel
theorem dX4_isOpen_31 : decode cX4_isOpen 31 = .ok (.iaload, 1) := by decide +kernel
theorem dX4_isOpen_32 : decode cX4_isOpen 32 = .ok (.aload_n 0, 1) := by decide +kernel
theorem dX4_isOpen_33 : decode cX4_isOpen 33 = .ok (.getfield 110, 3) := by decide +kernel
theorem dX4_isOpen_36 : decode cX4_isOpen 36 = .ok (.if_icmp .gt 14, 3) := by decide +kernel
theorem dX4_isOpen_39 : decode cX4_isOpen 39 = .ok (.aload_n 0, 1) := by decide +kernel
theorem dX4_isOpen_40 : decode cX4_isOpen 40 = .ok (.invokevirtual 125, 3) := by decide +kernel
theorem dX4_isOpen_43 : decode cX4_isOpen 43 = .ok (.ifCond .le 7, 3) := by decide +kernel
theorem dX4_isOpen_46 : decode cX4_isOpen 46 = .ok (.iconst 1, 1) := by decide +kernel
theorem dX4_isOpen_47 : decode cX4_isOpen 47 = .ok (.goto 4, 3) := by decide +kernel
theorem dX4_isOpen_50 : decode cX4_isOpen 50 = .ok (.iconst 0, 1) := by decide +kernel
theorem dX4_isOpen_51 : decode cX4_isOpen 51 = .ok (.ireturn, 1) := by decide +kernel
set_option maxRecDepth 20000 in
theorem ggX4_mayVisit_X4_isAsked : GoodIn wsX4_mayVisit wsX4_isAsked := goodIn_r _ [5, 6, 7, 8, 9, 4, 10, 11, 12, 13, 14, 36, 37, 38, 39, 40, 41, 42, 43, 44, 45, 46, 47, 48, 49, 50, 51, 52, 53, 54, 55, 56, 57, 58, 59, 60, 61] (by decide +kernel) (by decide +kernel)
set_option maxRecDepth 20000 in
theorem gX4_mayVisit_X4_isAsked : GoodIn wsX4_mayVisit (wsV RX4 113 RX4 yX4_isAsked wsX4_isAsked) := goodIn_app (goodIn_of _ (by decide +kernel)) ggX4_mayVisit_X4_isAsked
set_option maxRecDepth 20000 in
theorem ggX4_mayVisit_X4_isOpen : GoodIn wsX4_mayVisit wsX4_isOpen := goodIn_r _ [18, 19, 20, 21, 22, 23, 24, 25, 4, 26, 27, 28, 29, 30, 31, 32, 33, 34, 35, 36, 37, 38, 39, 40, 41, 42, 43, 44, 45, 46, 47, 48, 49, 50, 51, 52, 53, 54, 55, 56, 57, 58, 59, 60, 61] (by decide +kernel) (by decide +kernel)
set_option maxRecDepth 20000 in
theorem gX4_mayVisit_X4_isOpen : GoodIn wsX4_mayVisit (wsV RX4 129 RX4 yX4_isOpen wsX4_isOpen) := goodIn_app (goodIn_of _ (by decide +kernel)) ggX4_mayVisit_X4_isOpen
theorem dX4_mayVisit_0 : decode cX4_mayVisit 0 = .ok (.aload_n 0, 1) := by decide +kernel
theorem dX4_mayVisit_1 : decode cX4_mayVisit 1 = .ok (.iload_n 1, 1) := by decide +kernel
theorem dX4_mayVisit_2 : decode cX4_mayVisit 2 = .ok (.invokevirtual 113, 3) := by decide +kernel
theorem dX4_mayVisit_5 : decode cX4_mayVisit 5 = .ok (.ifCond .eq 15, 3) := by decide +kernel
theorem dX4_mayVisit_8 : decode cX4_mayVisit 8 = .ok (.aload_n 0, 1) := by decide +kernel
theorem dX4_mayVisit_9 : decode cX4_mayVisit 9 = .ok (.iload_n 1, 1) := by decide +kernel
theorem dX4_mayVisit_10 : decode cX4_mayVisit 10 = .ok (.invokevirtual 129, 3) := by decide +kernel
theorem dX4_mayVisit_13 : decode cX4_mayVisit 13 = .ok (.ifCond .eq 7, 3) := by decide +kernel
theorem dX4_mayVisit_16 : decode cX4_mayVisit 16 = .ok (.iconst 1, 1) := by decide +kernel
theorem dX4_mayVisit_17 : decode cX4_mayVisit 17 = .ok (.goto 4, 3) := by decide +kernel
theorem dX4_mayVisit_20 : decode cX4_mayVisit 20 = .ok (.iconst 0, 1) := by decide +kernel
theorem dX4_mayVisit_21 : decode cX4_mayVisit 21 = .ok (.ireturn, 1) := by decide +kernel
set_option maxRecDepth 20000 in
theorem ggX4_best_X4_isOpen : GoodIn wsX4_best wsX4_isOpen := goodIn_r _ [9, 4, 3, 10, 11, 12, 13, 14, 8, 15, 16, 17, 18, 19, 20, 21, 22, 23, 24, 25, 26, 27, 28, 29, 30, 31, 32, 33, 34, 35, 36, 37, 38, 39, 40, 41, 42, 43, 44, 45, 46, 47, 48, 49, 50] (by decide +kernel) (by decide +kernel)
set_option maxRecDepth 20000 in
theorem gX4_best_X4_isOpen : GoodIn wsX4_best (wsV RX4 129 RX4 yX4_isOpen wsX4_isOpen) := goodIn_app (goodIn_of _ (by decide +kernel)) ggX4_best_X4_isOpen
theorem dX4_best_0 : decode cX4_best 0 = .ok (.iconst (-1), 1) := by decide +kernel
theorem dX4_best_1 : decode cX4_best 1 = .ok (.istore_n 1, 1) := by decide +kernel
theorem dX4_best_2 : decode cX4_best 2 = .ok (.iconst 0, 1) := by decide +kernel
theorem dX4_best_3 : decode cX4_best 3 = .ok (.istore_n 2, 1) := by decide +kernel
theorem dX4_best_4 : decode cX4_best 4 = .ok (.iconst 0, 1) := by decide +kernel
theorem dX4_best_5 : decode cX4_best 5 = .ok (.istore_n 3, 1) := by decide +kernel
theorem dX4_best_6 : decode cX4_best 6 = .ok (.iload_n 3, 1) := by decide +kernel
theorem dX4_best_7 : decode cX4_best 7 = .ok (.aload_n 0, 1) := by decide +kernel
theorem dX4_best_8 : decode cX4_best 8 = .ok (.getfield 76, 3) := by decide +kernel
theorem dX4_best_11 : decode cX4_best 11 = .ok (.if_icmp .ge 102, 3) := by decide +kernel
theorem dX4_best_14 : decode cX4_best 14 = .ok (.bipush 10, 2) := by decide +kernel
theorem dX4_best_16 : decode cX4_best 16 = .ok (.aload_n 0, 1) := by decide +kernel
theorem dX4_best_17 : decode cX4_best 17 = .ok (.getfield 41, 3) := by decide +kernel
theorem dX4_best_20 : decode cX4_best 20 = .ok (.iload_n 3, 1) := by decide +kernel
theorem dX4_best_21 : decode cX4_best 21 = .ok (.iaload, 1) := by decide +kernel
theorem dX4_best_22 : decode cX4_best 22 = .ok (.imul, 1) := by decide +kernel
theorem dX4_best_23 : decode cX4_best 23 = .ok (.aload_n 0, 1) := by decide +kernel
theorem dX4_best_24 : decode cX4_best 24 = .ok (.getfield 110, 3) := by decide +kernel
theorem dX4_best_27 : decode cX4_best 27 = .ok (.iadd, 1) := by decide +kernel
theorem dX4_best_28 : decode cX4_best 28 = .ok (.aload_n 0, 1) := by decide +kernel
theorem dX4_best_29 : decode cX4_best 29 = .ok (.getfield 44, 3) := by decide +kernel
theorem dX4_best_32 : decode cX4_best 32 = .ok (.iload_n 3, 1) := by decide +kernel
theorem dX4_best_33 : decode cX4_best 33 = .ok (.iaload, 1) := by decide +kernel
theorem dX4_best_34 : decode cX4_best 34 = .ok (.isub, 1) := by decide +kernel
theorem dX4_best_35 : decode cX4_best 35 = .ok (.istore 4, 2) := by decide +kernel
theorem dX4_best_37 : decode cX4_best 37 = .ok (.aload_n 0, 1) := by decide +kernel
theorem dX4_best_38 : decode cX4_best 38 = .ok (.iload_n 3, 1) := by decide +kernel
theorem dX4_best_39 : decode cX4_best 39 = .ok (.invokevirtual 129, 3) := by decide +kernel
theorem dX4_best_42 : decode cX4_best 42 = .ok (.ifCond .eq 39, 3) := by decide +kernel
theorem dX4_best_45 : decode cX4_best 45 = .ok (.iload_n 1, 1) := by decide +kernel
theorem dX4_best_46 : decode cX4_best 46 = .ok (.iconst (-1), 1) := by decide +kernel
theorem dX4_best_47 : decode cX4_best 47 = .ok (.if_icmp .eq 30, 3) := by decide +kernel
theorem dX4_best_50 : decode cX4_best 50 = .ok (.iload 4, 2) := by decide +kernel
theorem dX4_best_52 : decode cX4_best 52 = .ok (.iload_n 2, 1) := by decide +kernel
theorem dX4_best_53 : decode cX4_best 53 = .ok (.if_icmp .gt 24, 3) := by decide +kernel
theorem dX4_best_56 : decode cX4_best 56 = .ok (.iload 4, 2) := by decide +kernel
theorem dX4_best_58 : decode cX4_best 58 = .ok (.iload_n 2, 1) := by decide +kernel
theorem dX4_best_59 : decode cX4_best 59 = .ok (.if_icmp .ne 22, 3) := by decide +kernel
theorem dX4_best_62 : decode cX4_best 62 = .ok (.aload_n 0, 1) := by decide +kernel
theorem dX4_best_63 : decode cX4_best 63 = .ok (.getfield 41, 3) := by decide +kernel
theorem dX4_best_66 : decode cX4_best 66 = .ok (.iload_n 3, 1) := by decide +kernel
theorem dX4_best_67 : decode cX4_best 67 = .ok (.iaload, 1) := by decide +kernel
theorem dX4_best_68 : decode cX4_best 68 = .ok (.aload_n 0, 1) := by decide +kernel
theorem dX4_best_69 : decode cX4_best 69 = .ok (.getfield 41, 3) := by decide +kernel
theorem dX4_best_72 : decode cX4_best 72 = .ok (.iload_n 1, 1) := by decide +kernel
theorem dX4_best_73 : decode cX4_best 73 = .ok (.iaload, 1) := by decide +kernel
theorem dX4_best_74 : decode cX4_best 74 = .ok (.if_icmp .le 7, 3) := by decide +kernel
theorem dX4_best_77 : decode cX4_best 77 = .ok (.iconst 1, 1) := by decide +kernel
theorem dX4_best_78 : decode cX4_best 78 = .ok (.goto 4, 3) := by decide +kernel
theorem dX4_best_81 : decode cX4_best 81 = .ok (.iconst 0, 1) := by decide +kernel
theorem dX4_best_82 : decode cX4_best 82 = .ok (.istore 5, 2) := by decide +kernel
theorem dX4_best_84 : decode cX4_best 84 = .ok (.iload 5, 2) := by decide +kernel
theorem dX4_best_86 : decode cX4_best 86 = .ok (.ifCond .eq 7, 3) := by decide +kernel
theorem dX4_best_89 : decode cX4_best 89 = .ok (.iload_n 3, 1) := by decide +kernel
theorem dX4_best_90 : decode cX4_best 90 = .ok (.goto 4, 3) := by decide +kernel
theorem dX4_best_93 : decode cX4_best 93 = .ok (.iload_n 1, 1) := by decide +kernel
theorem dX4_best_94 : decode cX4_best 94 = .ok (.istore_n 1, 1) := by decide +kernel
theorem dX4_best_95 : decode cX4_best 95 = .ok (.iload 5, 2) := by decide +kernel
theorem dX4_best_97 : decode cX4_best 97 = .ok (.ifCond .eq 8, 3) := by decide +kernel
theorem dX4_best_100 : decode cX4_best 100 = .ok (.iload 4, 2) := by decide +kernel
theorem dX4_best_102 : decode cX4_best 102 = .ok (.goto 4, 3) := by decide +kernel
theorem dX4_best_105 : decode cX4_best 105 = .ok (.iload_n 2, 1) := by decide +kernel
theorem dX4_best_106 : decode cX4_best 106 = .ok (.istore_n 2, 1) := by decide +kernel
theorem dX4_best_107 : decode cX4_best 107 = .ok (.iinc 3 1, 3) := by decide +kernel
theorem dX4_best_110 : decode cX4_best 110 = .ok (.goto (-104), 3) := by decide +kernel
theorem dX4_best_113 : decode cX4_best 113 = .ok (.iload_n 1, 1) := by decide +kernel
theorem dX4_best_114 : decode cX4_best 114 = .ok (.ireturn, 1) := by decide +kernel
set_option maxRecDepth 20000 in
theorem ggX4_next_X4_best : GoodIn wsX4_next wsX4_best := goodIn_r _ [6, 7, 8, 9, 10, 11, 12, 13, 5, 14, 15, 16, 17, 18, 19, 20, 21, 22, 23, 24, 25, 26, 27, 28, 29, 30, 31, 32, 33, 34, 35, 36, 37, 38, 39, 40, 41, 42, 43, 44, 45, 46, 47, 48, 49, 50, 51, 52, 53, 54, 55] (by decide +kernel) (by decide +kernel)
set_option maxRecDepth 20000 in
theorem gX4_next_X4_best : GoodIn wsX4_next (wsV RX4 132 RX4 yX4_best wsX4_best) := goodIn_app (goodIn_of _ (by decide +kernel)) ggX4_next_X4_best
theorem dX4_next_0 : decode cX4_next 0 = .ok (.aload_n 0, 1) := by decide +kernel
theorem dX4_next_1 : decode cX4_next 1 = .ok (.iconst 0, 1) := by decide +kernel
theorem dX4_next_2 : decode cX4_next 2 = .ok (.putfield 69, 3) := by decide +kernel
theorem dX4_next_5 : decode cX4_next 5 = .ok (.aload_n 0, 1) := by decide +kernel
theorem dX4_next_6 : decode cX4_next 6 = .ok (.invokevirtual 132, 3) := by decide +kernel
theorem dX4_next_9 : decode cX4_next 9 = .ok (.ireturn, 1) := by decide +kernel
set_option maxRecDepth 20000 in
theorem ggX4_nextByScan_X4_best : GoodIn wsX4_nextByScan wsX4_best := goodIn_r _ [6, 7, 8, 9, 10, 11, 12, 13, 5, 14, 15, 16, 17, 18, 19, 20, 21, 22, 23, 24, 25, 26, 27, 28, 29, 30, 31, 32, 33, 34, 35, 36, 37, 38, 39, 40, 41, 42, 43, 44, 45, 46, 47, 48, 49, 50, 51, 52, 53, 54, 55] (by decide +kernel) (by decide +kernel)
set_option maxRecDepth 20000 in
theorem gX4_nextByScan_X4_best : GoodIn wsX4_nextByScan (wsV RX4 132 RX4 yX4_best wsX4_best) := goodIn_app (goodIn_of _ (by decide +kernel)) ggX4_nextByScan_X4_best
theorem dX4_nextByScan_0 : decode cX4_nextByScan 0 = .ok (.aload_n 0, 1) := by decide +kernel
theorem dX4_nextByScan_1 : decode cX4_nextByScan 1 = .ok (.iconst 0, 1) := by decide +kernel
theorem dX4_nextByScan_2 : decode cX4_nextByScan 2 = .ok (.putfield 69, 3) := by decide +kernel
theorem dX4_nextByScan_5 : decode cX4_nextByScan 5 = .ok (.aload_n 0, 1) := by decide +kernel
theorem dX4_nextByScan_6 : decode cX4_nextByScan 6 = .ok (.invokevirtual 132, 3) := by decide +kernel
theorem dX4_nextByScan_9 : decode cX4_nextByScan 9 = .ok (.ireturn, 1) := by decide +kernel
set_option maxRecDepth 20000 in
theorem ggX4_visit_X4_isPage : GoodIn wsX4_visit wsX4_isPage := goodIn_r _ [19, 20, 21, 22, 18, 23, 42, 43, 44, 45, 46, 47, 48, 49, 50, 51, 52, 53, 54, 55, 56, 57, 58, 59, 60, 61, 62, 63, 64, 65, 66, 67] (by decide +kernel) (by decide +kernel)
set_option maxRecDepth 20000 in
theorem gX4_visit_X4_isPage : GoodIn wsX4_visit (wsV RX4 79 RX4 yX4_isPage wsX4_isPage) := goodIn_app (goodIn_of _ (by decide +kernel)) ggX4_visit_X4_isPage
set_option maxRecDepth 20000 in
theorem ggX4_visit_X4_fails : GoodIn wsX4_visit wsX4_fails := goodIn_r _ [27, 1, 42, 43, 44, 45, 46, 47, 48, 49, 50, 51, 52, 53, 54, 55, 56, 57, 58, 59, 60, 61, 62, 63, 64, 65, 66, 67] (by decide +kernel) (by decide +kernel)
set_option maxRecDepth 20000 in
theorem gX4_visit_X4_fails : GoodIn wsX4_visit (wsV RX4 96 RX4 yX4_fails wsX4_fails) := goodIn_app (goodIn_of _ (by decide +kernel)) ggX4_visit_X4_fails
set_option maxRecDepth 20000 in
theorem ggX4_visit_X4_in : GoodIn wsX4_visit wsX4_in := goodIn_r _ [23] (by decide +kernel) (by decide +kernel)
set_option maxRecDepth 20000 in
theorem gX4_visit_X4_in : GoodIn wsX4_visit (va_wsS RX4 72 yX4_in wsX4_in) := goodIn_app (goodIn_of _ (by decide +kernel)) ggX4_visit_X4_in
set_option maxRecDepth 20000 in
theorem ggX4_visit_X4_isOpen : GoodIn wsX4_visit wsX4_isOpen := goodIn_r _ [31, 10, 3, 13, 5, 32, 33, 34, 18, 35, 12, 36, 37, 38, 39, 40, 2, 4, 41, 42, 43, 44, 45, 46, 47, 48, 49, 50, 51, 52, 53, 54, 55, 56, 57, 58, 59, 60, 61, 62, 63, 64, 65, 66, 67] (by decide +kernel) (by decide +kernel)
set_option maxRecDepth 20000 in
theorem gX4_visit_X4_isOpen : GoodIn wsX4_visit (wsV RX4 129 RX4 yX4_isOpen wsX4_isOpen) := goodIn_app (goodIn_of _ (by decide +kernel)) ggX4_visit_X4_isOpen
theorem dX4_visit_0 : decode cX4_visit 0 = .ok (.aload_n 0, 1) := by decide +kernel
theorem dX4_visit_1 : decode cX4_visit 1 = .ok (.iconst 0, 1) := by decide +kernel
theorem dX4_visit_2 : decode cX4_visit 2 = .ok (.putfield 69, 3) := by decide +kernel
theorem dX4_visit_5 : decode cX4_visit 5 = .ok (.aload_n 0, 1) := by decide +kernel
theorem dX4_visit_6 : decode cX4_visit 6 = .ok (.iload_n 1, 1) := by decide +kernel
theorem dX4_visit_7 : decode cX4_visit 7 = .ok (.invokevirtual 79, 3) := by decide +kernel
theorem dX4_visit_10 : decode cX4_visit 10 = .ok (.ifCond .ne 9, 3) := by decide +kernel
theorem dX4_visit_13 : decode cX4_visit 13 = .ok (.aload_n 0, 1) := by decide +kernel
theorem dX4_visit_14 : decode cX4_visit 14 = .ok (.iconst 1, 1) := by decide +kernel
theorem dX4_visit_15 : decode cX4_visit 15 = .ok (.invokevirtual 96, 3) := by decide +kernel
theorem dX4_visit_18 : decode cX4_visit 18 = .ok (.ireturn, 1) := by decide +kernel
theorem dX4_visit_19 : decode cX4_visit 19 = .ok (.iload_n 2, 1) := by decide +kernel
theorem dX4_visit_20 : decode cX4_visit 20 = .ok (.iconst 0, 1) := by decide +kernel
theorem dX4_visit_21 : decode cX4_visit 21 = .ok (.iconst 3, 1) := by decide +kernel
theorem dX4_visit_22 : decode cX4_visit 22 = .ok (.invokestatic 72, 3) := by decide +kernel
theorem dX4_visit_25 : decode cX4_visit 25 = .ok (.ifCond .ne 9, 3) := by decide +kernel
theorem dX4_visit_28 : decode cX4_visit 28 = .ok (.aload_n 0, 1) := by decide +kernel
theorem dX4_visit_29 : decode cX4_visit 29 = .ok (.iconst 2, 1) := by decide +kernel
theorem dX4_visit_30 : decode cX4_visit 30 = .ok (.invokevirtual 96, 3) := by decide +kernel
theorem dX4_visit_33 : decode cX4_visit 33 = .ok (.ireturn, 1) := by decide +kernel
theorem dX4_visit_34 : decode cX4_visit 34 = .ok (.aload_n 0, 1) := by decide +kernel
theorem dX4_visit_35 : decode cX4_visit 35 = .ok (.iload_n 1, 1) := by decide +kernel
theorem dX4_visit_36 : decode cX4_visit 36 = .ok (.invokevirtual 129, 3) := by decide +kernel
theorem dX4_visit_39 : decode cX4_visit 39 = .ok (.ifCond .ne 9, 3) := by decide +kernel
theorem dX4_visit_42 : decode cX4_visit 42 = .ok (.aload_n 0, 1) := by decide +kernel
theorem dX4_visit_43 : decode cX4_visit 43 = .ok (.iconst 3, 1) := by decide +kernel
theorem dX4_visit_44 : decode cX4_visit 44 = .ok (.invokevirtual 96, 3) := by decide +kernel
theorem dX4_visit_47 : decode cX4_visit 47 = .ok (.ireturn, 1) := by decide +kernel
theorem dX4_visit_48 : decode cX4_visit 48 = .ok (.aload_n 0, 1) := by decide +kernel
theorem dX4_visit_49 : decode cX4_visit 49 = .ok (.aload_n 0, 1) := by decide +kernel
theorem dX4_visit_50 : decode cX4_visit 50 = .ok (.getfield 119, 3) := by decide +kernel
theorem dX4_visit_53 : decode cX4_visit 53 = .ok (.aload_n 0, 1) := by decide +kernel
theorem dX4_visit_54 : decode cX4_visit 54 = .ok (.getfield 110, 3) := by decide +kernel
theorem dX4_visit_57 : decode cX4_visit 57 = .ok (.bipush 100, 2) := by decide +kernel
theorem dX4_visit_59 : decode cX4_visit 59 = .ok (.idiv, 1) := by decide +kernel
theorem dX4_visit_60 : decode cX4_visit 60 = .ok (.if_icmp .ne 12, 3) := by decide +kernel
theorem dX4_visit_63 : decode cX4_visit 63 = .ok (.aload_n 0, 1) := by decide +kernel
theorem dX4_visit_64 : decode cX4_visit 64 = .ok (.getfield 122, 3) := by decide +kernel
theorem dX4_visit_67 : decode cX4_visit 67 = .ok (.iconst 1, 1) := by decide +kernel
theorem dX4_visit_68 : decode cX4_visit 68 = .ok (.iadd, 1) := by decide +kernel
theorem dX4_visit_69 : decode cX4_visit 69 = .ok (.goto 4, 3) := by decide +kernel
theorem dX4_visit_72 : decode cX4_visit 72 = .ok (.iconst 1, 1) := by decide +kernel
theorem dX4_visit_73 : decode cX4_visit 73 = .ok (.putfield 122, 3) := by decide +kernel
theorem dX4_visit_76 : decode cX4_visit 76 = .ok (.aload_n 0, 1) := by decide +kernel
theorem dX4_visit_77 : decode cX4_visit 77 = .ok (.aload_n 0, 1) := by decide +kernel
theorem dX4_visit_78 : decode cX4_visit 78 = .ok (.getfield 110, 3) := by decide +kernel
theorem dX4_visit_81 : decode cX4_visit 81 = .ok (.bipush 100, 2) := by decide +kernel
theorem dX4_visit_83 : decode cX4_visit 83 = .ok (.idiv, 1) := by decide +kernel
theorem dX4_visit_84 : decode cX4_visit 84 = .ok (.putfield 119, 3) := by decide +kernel
theorem dX4_visit_87 : decode cX4_visit 87 = .ok (.aload_n 0, 1) := by decide +kernel
theorem dX4_visit_88 : decode cX4_visit 88 = .ok (.getfield 38, 3) := by decide +kernel
theorem dX4_visit_91 : decode cX4_visit 91 = .ok (.iload_n 1, 1) := by decide +kernel
theorem dX4_visit_92 : decode cX4_visit 92 = .ok (.iaload, 1) := by decide +kernel
theorem dX4_visit_93 : decode cX4_visit 93 = .ok (.istore_n 3, 1) := by decide +kernel
theorem dX4_visit_94 : decode cX4_visit 94 = .ok (.aload_n 0, 1) := by decide +kernel
theorem dX4_visit_95 : decode cX4_visit 95 = .ok (.getfield 16, 3) := by decide +kernel
theorem dX4_visit_98 : decode cX4_visit 98 = .ok (.iload_n 3, 1) := by decide +kernel
theorem dX4_visit_99 : decode cX4_visit 99 = .ok (.iload_n 2, 1) := by decide +kernel
theorem dX4_visit_100 : decode cX4_visit 100 = .ok (.iconst 2, 1) := by decide +kernel
theorem dX4_visit_101 : decode cX4_visit 101 = .ok (.if_icmp .ne 14, 3) := by decide +kernel
theorem dX4_visit_104 : decode cX4_visit 104 = .ok (.aload_n 0, 1) := by decide +kernel
theorem dX4_visit_105 : decode cX4_visit 105 = .ok (.getfield 16, 3) := by decide +kernel
theorem dX4_visit_108 : decode cX4_visit 108 = .ok (.iload_n 3, 1) := by decide +kernel
theorem dX4_visit_109 : decode cX4_visit 109 = .ok (.iaload, 1) := by decide +kernel
theorem dX4_visit_110 : decode cX4_visit 110 = .ok (.iconst 1, 1) := by decide +kernel
theorem dX4_visit_111 : decode cX4_visit 111 = .ok (.iadd, 1) := by decide +kernel
theorem dX4_visit_112 : decode cX4_visit 112 = .ok (.goto 4, 3) := by decide +kernel
theorem dX4_visit_115 : decode cX4_visit 115 = .ok (.iconst 0, 1) := by decide +kernel
theorem dX4_visit_116 : decode cX4_visit 116 = .ok (.iastore, 1) := by decide +kernel
theorem dX4_visit_117 : decode cX4_visit 117 = .ok (.iload_n 2, 1) := by decide +kernel
theorem dX4_visit_118 : decode cX4_visit 118 = .ok (.iconst 2, 1) := by decide +kernel
theorem dX4_visit_119 : decode cX4_visit 119 = .ok (.if_icmp .ge 92, 3) := by decide +kernel
theorem dX4_visit_122 : decode cX4_visit 122 = .ok (.aload_n 0, 1) := by decide +kernel
theorem dX4_visit_123 : decode cX4_visit 123 = .ok (.getfield 47, 3) := by decide +kernel
theorem dX4_visit_126 : decode cX4_visit 126 = .ok (.iload_n 1, 1) := by decide +kernel
theorem dX4_visit_127 : decode cX4_visit 127 = .ok (.dup2, 1) := by decide +kernel
theorem dX4_visit_128 : decode cX4_visit 128 = .ok (.iaload, 1) := by decide +kernel
theorem dX4_visit_129 : decode cX4_visit 129 = .ok (.iconst 1, 1) := by decide +kernel
theorem dX4_visit_130 : decode cX4_visit 130 = .ok (.iadd, 1) := by decide +kernel
theorem dX4_visit_131 : decode cX4_visit 131 = .ok (.iastore, 1) := by decide +kernel
theorem dX4_visit_132 : decode cX4_visit 132 = .ok (.aload_n 0, 1) := by decide +kernel
theorem dX4_visit_133 : decode cX4_visit 133 = .ok (.getfield 50, 3) := by decide +kernel
theorem dX4_visit_136 : decode cX4_visit 136 = .ok (.iload_n 1, 1) := by decide +kernel
theorem dX4_visit_137 : decode cX4_visit 137 = .ok (.dup2, 1) := by decide +kernel
theorem dX4_visit_138 : decode cX4_visit 138 = .ok (.iaload, 1) := by decide +kernel
theorem dX4_visit_139 : decode cX4_visit 139 = .ok (.iload_n 2, 1) := by decide +kernel
theorem dX4_visit_140 : decode cX4_visit 140 = .ok (.iconst 1, 1) := by decide +kernel
theorem dX4_visit_141 : decode cX4_visit 141 = .ok (.if_icmp .ne 7, 3) := by decide +kernel
theorem dX4_visit_144 : decode cX4_visit 144 = .ok (.iconst 1, 1) := by decide +kernel
theorem dX4_visit_145 : decode cX4_visit 145 = .ok (.goto 4, 3) := by decide +kernel
theorem dX4_visit_148 : decode cX4_visit 148 = .ok (.iconst 0, 1) := by decide +kernel
theorem dX4_visit_149 : decode cX4_visit 149 = .ok (.iadd, 1) := by decide +kernel
theorem dX4_visit_150 : decode cX4_visit 150 = .ok (.iastore, 1) := by decide +kernel
theorem dX4_visit_151 : decode cX4_visit 151 = .ok (.aload_n 0, 1) := by decide +kernel
theorem dX4_visit_152 : decode cX4_visit 152 = .ok (.getfield 22, 3) := by decide +kernel
theorem dX4_visit_155 : decode cX4_visit 155 = .ok (.aload_n 0, 1) := by decide +kernel
theorem dX4_visit_156 : decode cX4_visit 156 = .ok (.getfield 47, 3) := by decide +kernel
theorem dX4_visit_159 : decode cX4_visit 159 = .ok (.iload_n 1, 1) := by decide +kernel
theorem dX4_visit_160 : decode cX4_visit 160 = .ok (.iaload, 1) := by decide +kernel
theorem dX4_visit_161 : decode cX4_visit 161 = .ok (.iconst 2, 1) := by decide +kernel
theorem dX4_visit_162 : decode cX4_visit 162 = .ok (.iadd, 1) := by decide +kernel
theorem dX4_visit_163 : decode cX4_visit 163 = .ok (.imul, 1) := by decide +kernel
theorem dX4_visit_164 : decode cX4_visit 164 = .ok (.aload_n 0, 1) := by decide +kernel
theorem dX4_visit_165 : decode cX4_visit 165 = .ok (.getfield 50, 3) := by decide +kernel
theorem dX4_visit_168 : decode cX4_visit 168 = .ok (.iload_n 1, 1) := by decide +kernel
theorem dX4_visit_169 : decode cX4_visit 169 = .ok (.iaload, 1) := by decide +kernel
theorem dX4_visit_170 : decode cX4_visit 170 = .ok (.iadd, 1) := by decide +kernel
theorem dX4_visit_171 : decode cX4_visit 171 = .ok (.aload_n 0, 1) := by decide +kernel
theorem dX4_visit_172 : decode cX4_visit 172 = .ok (.getfield 50, 3) := by decide +kernel
theorem dX4_visit_175 : decode cX4_visit 175 = .ok (.iload_n 1, 1) := by decide +kernel
theorem dX4_visit_176 : decode cX4_visit 176 = .ok (.iaload, 1) := by decide +kernel
theorem dX4_visit_177 : decode cX4_visit 177 = .ok (.iconst 1, 1) := by decide +kernel
theorem dX4_visit_178 : decode cX4_visit 178 = .ok (.iadd, 1) := by decide +kernel
theorem dX4_visit_179 : decode cX4_visit 179 = .ok (.idiv, 1) := by decide +kernel
theorem dX4_visit_180 : decode cX4_visit 180 = .ok (.istore 4, 2) := by decide +kernel
theorem dX4_visit_182 : decode cX4_visit 182 = .ok (.aload_n 0, 1) := by decide +kernel
theorem dX4_visit_183 : decode cX4_visit 183 = .ok (.getfield 44, 3) := by decide +kernel
theorem dX4_visit_186 : decode cX4_visit 186 = .ok (.iload_n 1, 1) := by decide +kernel
theorem dX4_visit_187 : decode cX4_visit 187 = .ok (.aload_n 0, 1) := by decide +kernel
theorem dX4_visit_188 : decode cX4_visit 188 = .ok (.getfield 110, 3) := by decide +kernel
theorem dX4_visit_191 : decode cX4_visit 191 = .ok (.iload 4, 2) := by decide +kernel
theorem dX4_visit_193 : decode cX4_visit 193 = .ok (.aload_n 0, 1) := by decide +kernel
theorem dX4_visit_194 : decode cX4_visit 194 = .ok (.getfield 26, 3) := by decide +kernel
theorem dX4_visit_197 : decode cX4_visit 197 = .ok (.if_icmp .ge 8, 3) := by decide +kernel
theorem dX4_visit_200 : decode cX4_visit 200 = .ok (.iload 4, 2) := by decide +kernel
theorem dX4_visit_202 : decode cX4_visit 202 = .ok (.goto 7, 3) := by decide +kernel
theorem dX4_visit_205 : decode cX4_visit 205 = .ok (.aload_n 0, 1) := by decide +kernel
theorem dX4_visit_206 : decode cX4_visit 206 = .ok (.getfield 26, 3) := by decide +kernel
theorem dX4_visit_209 : decode cX4_visit 209 = .ok (.iadd, 1) := by decide +kernel
theorem dX4_visit_210 : decode cX4_visit 210 = .ok (.iastore, 1) := by decide +kernel
theorem dX4_visit_211 : decode cX4_visit 211 = .ok (.aload_n 0, 1) := by decide +kernel
theorem dX4_visit_212 : decode cX4_visit 212 = .ok (.getfield 44, 3) := by decide +kernel
theorem dX4_visit_215 : decode cX4_visit 215 = .ok (.iload_n 1, 1) := by decide +kernel
theorem dX4_visit_216 : decode cX4_visit 216 = .ok (.iload_n 2, 1) := by decide +kernel
theorem dX4_visit_217 : decode cX4_visit 217 = .ok (.iconst 2, 1) := by decide +kernel
theorem dX4_visit_218 : decode cX4_visit 218 = .ok (.if_icmp .ne 15, 3) := by decide +kernel
theorem dX4_visit_221 : decode cX4_visit 221 = .ok (.aload_n 0, 1) := by decide +kernel
theorem dX4_visit_222 : decode cX4_visit 222 = .ok (.getfield 110, 3) := by decide +kernel
theorem dX4_visit_225 : decode cX4_visit 225 = .ok (.aload_n 0, 1) := by decide +kernel
theorem dX4_visit_226 : decode cX4_visit 226 = .ok (.getfield 22, 3) := by decide +kernel
theorem dX4_visit_229 : decode cX4_visit 229 = .ok (.iadd, 1) := by decide +kernel
theorem dX4_visit_230 : decode cX4_visit 230 = .ok (.goto 9, 3) := by decide +kernel
theorem dX4_visit_233 : decode cX4_visit 233 = .ok (.aload_n 0, 1) := by decide +kernel
theorem dX4_visit_234 : decode cX4_visit 234 = .ok (.getfield 44, 3) := by decide +kernel
theorem dX4_visit_237 : decode cX4_visit 237 = .ok (.iload_n 1, 1) := by decide +kernel
theorem dX4_visit_238 : decode cX4_visit 238 = .ok (.iaload, 1) := by decide +kernel
theorem dX4_visit_239 : decode cX4_visit 239 = .ok (.iastore, 1) := by decide +kernel
theorem dX4_visit_240 : decode cX4_visit 240 = .ok (.aload_n 0, 1) := by decide +kernel
theorem dX4_visit_241 : decode cX4_visit 241 = .ok (.getfield 53, 3) := by decide +kernel
theorem dX4_visit_244 : decode cX4_visit 244 = .ok (.iload_n 1, 1) := by decide +kernel
theorem dX4_visit_245 : decode cX4_visit 245 = .ok (.iload_n 2, 1) := by decide +kernel
theorem dX4_visit_246 : decode cX4_visit 246 = .ok (.iconst 3, 1) := by decide +kernel
theorem dX4_visit_247 : decode cX4_visit 247 = .ok (.if_icmp .ne 7, 3) := by decide +kernel
theorem dX4_visit_250 : decode cX4_visit 250 = .ok (.iconst 1, 1) := by decide +kernel
theorem dX4_visit_251 : decode cX4_visit 251 = .ok (.goto 4, 3) := by decide +kernel
theorem dX4_visit_254 : decode cX4_visit 254 = .ok (.iconst 0, 1) := by decide +kernel
theorem dX4_visit_255 : decode cX4_visit 255 = .ok (.bastore, 1) := by decide +kernel
theorem dX4_visit_256 : decode cX4_visit 256 = .ok (.aload_n 0, 1) := by decide +kernel
theorem dX4_visit_257 : decode cX4_visit 257 = .ok (.getfield 16, 3) := by decide +kernel
theorem dX4_visit_260 : decode cX4_visit 260 = .ok (.iload_n 3, 1) := by decide +kernel
theorem dX4_visit_261 : decode cX4_visit 261 = .ok (.iaload, 1) := by decide +kernel
theorem dX4_visit_262 : decode cX4_visit 262 = .ok (.iconst 5, 1) := by decide +kernel
theorem dX4_visit_263 : decode cX4_visit 263 = .ok (.if_icmp .ge 12, 3) := by decide +kernel
theorem dX4_visit_266 : decode cX4_visit 266 = .ok (.aload_n 0, 1) := by decide +kernel
theorem dX4_visit_267 : decode cX4_visit 267 = .ok (.getfield 16, 3) := by decide +kernel
theorem dX4_visit_270 : decode cX4_visit 270 = .ok (.iload_n 3, 1) := by decide +kernel
theorem dX4_visit_271 : decode cX4_visit 271 = .ok (.iaload, 1) := by decide +kernel
theorem dX4_visit_272 : decode cX4_visit 272 = .ok (.goto 4, 3) := by decide +kernel
theorem dX4_visit_275 : decode cX4_visit 275 = .ok (.iconst 5, 1) := by decide +kernel
theorem dX4_visit_276 : decode cX4_visit 276 = .ok (.istore 4, 2) := by decide +kernel
theorem dX4_visit_278 : decode cX4_visit 278 = .ok (.aload_n 0, 1) := by decide +kernel
theorem dX4_visit_279 : decode cX4_visit 279 = .ok (.getfield 19, 3) := by decide +kernel
theorem dX4_visit_282 : decode cX4_visit 282 = .ok (.iload_n 3, 1) := by decide +kernel
theorem dX4_visit_283 : decode cX4_visit 283 = .ok (.aload_n 0, 1) := by decide +kernel
theorem dX4_visit_284 : decode cX4_visit 284 = .ok (.getfield 110, 3) := by decide +kernel
theorem dX4_visit_287 : decode cX4_visit 287 = .ok (.aload_n 0, 1) := by decide +kernel
theorem dX4_visit_288 : decode cX4_visit 288 = .ok (.getfield 13, 3) := by decide +kernel
theorem dX4_visit_291 : decode cX4_visit 291 = .ok (.iload_n 3, 1) := by decide +kernel
theorem dX4_visit_292 : decode cX4_visit 292 = .ok (.iaload, 1) := by decide +kernel
theorem dX4_visit_293 : decode cX4_visit 293 = .ok (.iload 4, 2) := by decide +kernel
theorem dX4_visit_295 : decode cX4_visit 295 = .ok (.ishl, 1) := by decide +kernel
theorem dX4_visit_296 : decode cX4_visit 296 = .ok (.iadd, 1) := by decide +kernel
theorem dX4_visit_297 : decode cX4_visit 297 = .ok (.iastore, 1) := by decide +kernel
theorem dX4_visit_298 : decode cX4_visit 298 = .ok (.aload_n 0, 1) := by decide +kernel
theorem dX4_visit_299 : decode cX4_visit 299 = .ok (.getfield 19, 3) := by decide +kernel
theorem dX4_visit_302 : decode cX4_visit 302 = .ok (.iload_n 3, 1) := by decide +kernel
theorem dX4_visit_303 : decode cX4_visit 303 = .ok (.iaload, 1) := by decide +kernel
theorem dX4_visit_304 : decode cX4_visit 304 = .ok (.ireturn, 1) := by decide +kernel
set_option maxRecDepth 20000 in
theorem ggX4_pass_X4_in : GoodIn wsX4_pass wsX4_in := goodIn_r _ [7] (by decide +kernel) (by decide +kernel)
set_option maxRecDepth 20000 in
theorem gX4_pass_X4_in : GoodIn wsX4_pass (va_wsS RX4 72 yX4_in wsX4_in) := goodIn_app (goodIn_of _ (by decide +kernel)) ggX4_pass_X4_in
set_option maxRecDepth 20000 in
theorem ggX4_pass_X4_fails : GoodIn wsX4_pass wsX4_fails := goodIn_r _ [11, 1, 12, 13, 14, 15, 16, 17, 18, 19, 20, 21, 22, 23, 24, 25, 26, 27, 28, 29, 30, 31, 32, 33, 34, 35, 36, 37] (by decide +kernel) (by decide +kernel)
set_option maxRecDepth 20000 in
theorem gX4_pass_X4_fails : GoodIn wsX4_pass (wsV RX4 96 RX4 yX4_fails wsX4_fails) := goodIn_app (goodIn_of _ (by decide +kernel)) ggX4_pass_X4_fails
theorem dX4_pass_0 : decode cX4_pass 0 = .ok (.aload_n 0, 1) := by decide +kernel
theorem dX4_pass_1 : decode cX4_pass 1 = .ok (.iconst 0, 1) := by decide +kernel
theorem dX4_pass_2 : decode cX4_pass 2 = .ok (.putfield 69, 3) := by decide +kernel
theorem dX4_pass_5 : decode cX4_pass 5 = .ok (.iload_n 1, 1) := by decide +kernel
theorem dX4_pass_6 : decode cX4_pass 6 = .ok (.iconst 1, 1) := by decide +kernel
theorem dX4_pass_7 : decode cX4_pass 7 = .ok (.sipush 1000, 3) := by decide +kernel
theorem dX4_pass_10 : decode cX4_pass 10 = .ok (.invokestatic 72, 3) := by decide +kernel
theorem dX4_pass_13 : decode cX4_pass 13 = .ok (.ifCond .ne 9, 3) := by decide +kernel
theorem dX4_pass_16 : decode cX4_pass 16 = .ok (.aload_n 0, 1) := by decide +kernel
theorem dX4_pass_17 : decode cX4_pass 17 = .ok (.iconst 1, 1) := by decide +kernel
theorem dX4_pass_18 : decode cX4_pass 18 = .ok (.invokevirtual 96, 3) := by decide +kernel
theorem dX4_pass_21 : decode cX4_pass 21 = .ok (.ireturn, 1) := by decide +kernel
theorem dX4_pass_22 : decode cX4_pass 22 = .ok (.aload_n 0, 1) := by decide +kernel
theorem dX4_pass_23 : decode cX4_pass 23 = .ok (.getfield 110, 3) := by decide +kernel
theorem dX4_pass_26 : decode cX4_pass 26 = .ok (.iload_n 1, 1) := by decide +kernel
theorem dX4_pass_27 : decode cX4_pass 27 = .ok (.iadd, 1) := by decide +kernel
theorem dX4_pass_28 : decode cX4_pass 28 = .ok (.ldc 135, 2) := by decide +kernel
theorem dX4_pass_30 : decode cX4_pass 30 = .ok (.if_icmp .le 9, 3) := by decide +kernel
theorem dX4_pass_33 : decode cX4_pass 33 = .ok (.aload_n 0, 1) := by decide +kernel
theorem dX4_pass_34 : decode cX4_pass 34 = .ok (.iconst 2, 1) := by decide +kernel
theorem dX4_pass_35 : decode cX4_pass 35 = .ok (.invokevirtual 96, 3) := by decide +kernel
theorem dX4_pass_38 : decode cX4_pass 38 = .ok (.ireturn, 1) := by decide +kernel
theorem dX4_pass_39 : decode cX4_pass 39 = .ok (.aload_n 0, 1) := by decide +kernel
theorem dX4_pass_40 : decode cX4_pass 40 = .ok (.dup, 1) := by decide +kernel
theorem dX4_pass_41 : decode cX4_pass 41 = .ok (.getfield 110, 3) := by decide +kernel
theorem dX4_pass_44 : decode cX4_pass 44 = .ok (.iload_n 1, 1) := by decide +kernel
theorem dX4_pass_45 : decode cX4_pass 45 = .ok (.iadd, 1) := by decide +kernel
theorem dX4_pass_46 : decode cX4_pass 46 = .ok (.putfield 110, 3) := by decide +kernel
theorem dX4_pass_49 : decode cX4_pass 49 = .ok (.aload_n 0, 1) := by decide +kernel
theorem dX4_pass_50 : decode cX4_pass 50 = .ok (.getfield 110, 3) := by decide +kernel
theorem dX4_pass_53 : decode cX4_pass 53 = .ok (.ireturn, 1) := by decide +kernel
theorem dX4_now_0 : decode cX4_now 0 = .ok (.aload_n 0, 1) := by decide +kernel
theorem dX4_now_1 : decode cX4_now 1 = .ok (.iconst 0, 1) := by decide +kernel
theorem dX4_now_2 : decode cX4_now 2 = .ok (.putfield 69, 3) := by decide +kernel
theorem dX4_now_5 : decode cX4_now 5 = .ok (.aload_n 0, 1) := by decide +kernel
theorem dX4_now_6 : decode cX4_now 6 = .ok (.getfield 110, 3) := by decide +kernel
theorem dX4_now_9 : decode cX4_now 9 = .ok (.ireturn, 1) := by decide +kernel
set_option maxRecDepth 20000 in
theorem ggX4_budgetLeft_X4_left : GoodIn wsX4_budgetLeft wsX4_left := goodIn_r _ [6, 7, 8, 9, 10, 11, 12, 13, 14, 15, 16, 17, 18, 19, 20, 21, 22, 23, 24, 25, 26, 27, 28, 29, 30, 31, 32, 33, 34, 35, 36] (by decide +kernel) (by decide +kernel)
set_option maxRecDepth 20000 in
theorem gX4_budgetLeft_X4_left : GoodIn wsX4_budgetLeft (wsV RX4 125 RX4 yX4_left wsX4_left) := goodIn_app (goodIn_of _ (by decide +kernel)) ggX4_budgetLeft_X4_left
theorem dX4_budgetLeft_0 : decode cX4_budgetLeft 0 = .ok (.aload_n 0, 1) := by decide +kernel
theorem dX4_budgetLeft_1 : decode cX4_budgetLeft 1 = .ok (.iconst 0, 1) := by decide +kernel
theorem dX4_budgetLeft_2 : decode cX4_budgetLeft 2 = .ok (.putfield 69, 3) := by decide +kernel
theorem dX4_budgetLeft_5 : decode cX4_budgetLeft 5 = .ok (.aload_n 0, 1) := by decide +kernel
theorem dX4_budgetLeft_6 : decode cX4_budgetLeft 6 = .ok (.invokevirtual 125, 3) := by decide +kernel
theorem dX4_budgetLeft_9 : decode cX4_budgetLeft 9 = .ok (.ireturn, 1) := by decide +kernel
set_option maxRecDepth 20000 in
theorem ggX4_waiting_X4_left : GoodIn wsX4_waiting wsX4_left := goodIn_r _ [11, 12, 6, 13, 14, 21, 22, 23, 24, 25, 26, 27, 28, 29, 30, 31, 32, 33, 34, 35, 36, 37, 38, 39, 40, 41, 42, 43, 44, 45, 46] (by decide +kernel) (by decide +kernel)
set_option maxRecDepth 20000 in
theorem gX4_waiting_X4_left : GoodIn wsX4_waiting (wsV RX4 125 RX4 yX4_left wsX4_left) := goodIn_app (goodIn_of _ (by decide +kernel)) ggX4_waiting_X4_left
set_option maxRecDepth 20000 in
theorem ggX4_waiting_X4_counts : GoodIn wsX4_waiting wsX4_counts := goodIn_r _ [18, 19, 20, 21, 22, 23, 24, 25, 26, 27, 28, 29, 30, 31, 32, 33, 34, 35, 36, 37, 38, 39, 40, 41, 42, 43, 44, 45, 46] (by decide +kernel) (by decide +kernel)
set_option maxRecDepth 20000 in
theorem gX4_waiting_X4_counts : GoodIn wsX4_waiting (wsV RX4 116 RX4 yX4_counts wsX4_counts) := goodIn_app (goodIn_of _ (by decide +kernel)) ggX4_waiting_X4_counts
theorem dX4_waiting_0 : decode cX4_waiting 0 = .ok (.aload_n 0, 1) := by decide +kernel
theorem dX4_waiting_1 : decode cX4_waiting 1 = .ok (.iconst 0, 1) := by decide +kernel
theorem dX4_waiting_2 : decode cX4_waiting 2 = .ok (.putfield 69, 3) := by decide +kernel
theorem dX4_waiting_5 : decode cX4_waiting 5 = .ok (.iconst (-1), 1) := by decide +kernel
theorem dX4_waiting_6 : decode cX4_waiting 6 = .ok (.istore_n 1, 1) := by decide +kernel
theorem dX4_waiting_7 : decode cX4_waiting 7 = .ok (.iconst 0, 1) := by decide +kernel
theorem dX4_waiting_8 : decode cX4_waiting 8 = .ok (.istore_n 2, 1) := by decide +kernel
theorem dX4_waiting_9 : decode cX4_waiting 9 = .ok (.iload_n 2, 1) := by decide +kernel
theorem dX4_waiting_10 : decode cX4_waiting 10 = .ok (.aload_n 0, 1) := by decide +kernel
theorem dX4_waiting_11 : decode cX4_waiting 11 = .ok (.getfield 76, 3) := by decide +kernel
theorem dX4_waiting_14 : decode cX4_waiting 14 = .ok (.if_icmp .ge 129, 3) := by decide +kernel
theorem dX4_waiting_17 : decode cX4_waiting 17 = .ok (.aload_n 0, 1) := by decide +kernel
theorem dX4_waiting_18 : decode cX4_waiting 18 = .ok (.getfield 44, 3) := by decide +kernel
theorem dX4_waiting_21 : decode cX4_waiting 21 = .ok (.iload_n 2, 1) := by decide +kernel
theorem dX4_waiting_22 : decode cX4_waiting 22 = .ok (.iaload, 1) := by decide +kernel
theorem dX4_waiting_23 : decode cX4_waiting 23 = .ok (.aload_n 0, 1) := by decide +kernel
theorem dX4_waiting_24 : decode cX4_waiting 24 = .ok (.getfield 19, 3) := by decide +kernel
theorem dX4_waiting_27 : decode cX4_waiting 27 = .ok (.aload_n 0, 1) := by decide +kernel
theorem dX4_waiting_28 : decode cX4_waiting 28 = .ok (.getfield 38, 3) := by decide +kernel
theorem dX4_waiting_31 : decode cX4_waiting 31 = .ok (.iload_n 2, 1) := by decide +kernel
theorem dX4_waiting_32 : decode cX4_waiting 32 = .ok (.iaload, 1) := by decide +kernel
theorem dX4_waiting_33 : decode cX4_waiting 33 = .ok (.iaload, 1) := by decide +kernel
theorem dX4_waiting_34 : decode cX4_waiting 34 = .ok (.if_icmp .le 12, 3) := by decide +kernel
theorem dX4_waiting_37 : decode cX4_waiting 37 = .ok (.aload_n 0, 1) := by decide +kernel
theorem dX4_waiting_38 : decode cX4_waiting 38 = .ok (.getfield 44, 3) := by decide +kernel
theorem dX4_waiting_41 : decode cX4_waiting 41 = .ok (.iload_n 2, 1) := by decide +kernel
theorem dX4_waiting_42 : decode cX4_waiting 42 = .ok (.iaload, 1) := by decide +kernel
theorem dX4_waiting_43 : decode cX4_waiting 43 = .ok (.goto 14, 3) := by decide +kernel
theorem dX4_waiting_46 : decode cX4_waiting 46 = .ok (.aload_n 0, 1) := by decide +kernel
theorem dX4_waiting_47 : decode cX4_waiting 47 = .ok (.getfield 19, 3) := by decide +kernel
theorem dX4_waiting_50 : decode cX4_waiting 50 = .ok (.aload_n 0, 1) := by decide +kernel
theorem dX4_waiting_51 : decode cX4_waiting 51 = .ok (.getfield 38, 3) := by decide +kernel
