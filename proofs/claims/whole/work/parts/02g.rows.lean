theorem dX4_waiting_54 : decode cX4_waiting 54 = .ok (.iload_n 2, 1) := by decide +kernel
theorem dX4_waiting_55 : decode cX4_waiting 55 = .ok (.iaload, 1) := by decide +kernel
theorem dX4_waiting_56 : decode cX4_waiting 56 = .ok (.iaload, 1) := by decide +kernel
theorem dX4_waiting_57 : decode cX4_waiting 57 = .ok (.istore_n 3, 1) := by decide +kernel
theorem dX4_waiting_58 : decode cX4_waiting 58 = .ok (.iload_n 3, 1) := by decide +kernel
theorem dX4_waiting_59 : decode cX4_waiting 59 = .ok (.aload_n 0, 1) := by decide +kernel
theorem dX4_waiting_60 : decode cX4_waiting 60 = .ok (.getfield 110, 3) := by decide +kernel
theorem dX4_waiting_63 : decode cX4_waiting 63 = .ok (.if_icmp .le 7, 3) := by decide +kernel
theorem dX4_waiting_66 : decode cX4_waiting 66 = .ok (.iload_n 3, 1) := by decide +kernel
theorem dX4_waiting_67 : decode cX4_waiting 67 = .ok (.goto 7, 3) := by decide +kernel
theorem dX4_waiting_70 : decode cX4_waiting 70 = .ok (.aload_n 0, 1) := by decide +kernel
theorem dX4_waiting_71 : decode cX4_waiting 71 = .ok (.getfield 110, 3) := by decide +kernel
theorem dX4_waiting_74 : decode cX4_waiting 74 = .ok (.istore_n 3, 1) := by decide +kernel
theorem dX4_waiting_75 : decode cX4_waiting 75 = .ok (.iload_n 3, 1) := by decide +kernel
theorem dX4_waiting_76 : decode cX4_waiting 76 = .ok (.bipush 100, 2) := by decide +kernel
theorem dX4_waiting_78 : decode cX4_waiting 78 = .ok (.idiv, 1) := by decide +kernel
theorem dX4_waiting_79 : decode cX4_waiting 79 = .ok (.aload_n 0, 1) := by decide +kernel
theorem dX4_waiting_80 : decode cX4_waiting 80 = .ok (.getfield 110, 3) := by decide +kernel
theorem dX4_waiting_83 : decode cX4_waiting 83 = .ok (.bipush 100, 2) := by decide +kernel
theorem dX4_waiting_85 : decode cX4_waiting 85 = .ok (.idiv, 1) := by decide +kernel
theorem dX4_waiting_86 : decode cX4_waiting 86 = .ok (.if_icmp .ne 25, 3) := by decide +kernel
theorem dX4_waiting_89 : decode cX4_waiting 89 = .ok (.aload_n 0, 1) := by decide +kernel
theorem dX4_waiting_90 : decode cX4_waiting 90 = .ok (.invokevirtual 125, 3) := by decide +kernel
theorem dX4_waiting_93 : decode cX4_waiting 93 = .ok (.ifCond .ne 18, 3) := by decide +kernel
theorem dX4_waiting_96 : decode cX4_waiting 96 = .ok (.bipush 100, 2) := by decide +kernel
theorem dX4_waiting_98 : decode cX4_waiting 98 = .ok (.aload_n 0, 1) := by decide +kernel
theorem dX4_waiting_99 : decode cX4_waiting 99 = .ok (.getfield 110, 3) := by decide +kernel
theorem dX4_waiting_102 : decode cX4_waiting 102 = .ok (.bipush 100, 2) := by decide +kernel
theorem dX4_waiting_104 : decode cX4_waiting 104 = .ok (.idiv, 1) := by decide +kernel
theorem dX4_waiting_105 : decode cX4_waiting 105 = .ok (.iconst 1, 1) := by decide +kernel
theorem dX4_waiting_106 : decode cX4_waiting 106 = .ok (.iadd, 1) := by decide +kernel
theorem dX4_waiting_107 : decode cX4_waiting 107 = .ok (.imul, 1) := by decide +kernel
theorem dX4_waiting_108 : decode cX4_waiting 108 = .ok (.goto 4, 3) := by decide +kernel
theorem dX4_waiting_111 : decode cX4_waiting 111 = .ok (.iload_n 3, 1) := by decide +kernel
theorem dX4_waiting_112 : decode cX4_waiting 112 = .ok (.istore_n 3, 1) := by decide +kernel
theorem dX4_waiting_113 : decode cX4_waiting 113 = .ok (.aload_n 0, 1) := by decide +kernel
theorem dX4_waiting_114 : decode cX4_waiting 114 = .ok (.iload_n 2, 1) := by decide +kernel
theorem dX4_waiting_115 : decode cX4_waiting 115 = .ok (.invokevirtual 116, 3) := by decide +kernel
theorem dX4_waiting_118 : decode cX4_waiting 118 = .ok (.ifCond .eq 17, 3) := by decide +kernel
theorem dX4_waiting_121 : decode cX4_waiting 121 = .ok (.iload_n 1, 1) := by decide +kernel
theorem dX4_waiting_122 : decode cX4_waiting 122 = .ok (.iconst (-1), 1) := by decide +kernel
theorem dX4_waiting_123 : decode cX4_waiting 123 = .ok (.if_icmp .eq 8, 3) := by decide +kernel
theorem dX4_waiting_126 : decode cX4_waiting 126 = .ok (.iload_n 3, 1) := by decide +kernel
theorem dX4_waiting_127 : decode cX4_waiting 127 = .ok (.iload_n 1, 1) := by decide +kernel
theorem dX4_waiting_128 : decode cX4_waiting 128 = .ok (.if_icmp .ge 7, 3) := by decide +kernel
theorem dX4_waiting_131 : decode cX4_waiting 131 = .ok (.iload_n 3, 1) := by decide +kernel
theorem dX4_waiting_132 : decode cX4_waiting 132 = .ok (.goto 4, 3) := by decide +kernel
theorem dX4_waiting_135 : decode cX4_waiting 135 = .ok (.iload_n 1, 1) := by decide +kernel
theorem dX4_waiting_136 : decode cX4_waiting 136 = .ok (.istore_n 1, 1) := by decide +kernel
theorem dX4_waiting_137 : decode cX4_waiting 137 = .ok (.iinc 2 1, 3) := by decide +kernel
theorem dX4_waiting_140 : decode cX4_waiting 140 = .ok (.goto (-131), 3) := by decide +kernel
theorem dX4_waiting_143 : decode cX4_waiting 143 = .ok (.iload_n 1, 1) := by decide +kernel
theorem dX4_waiting_144 : decode cX4_waiting 144 = .ok (.iconst (-1), 1) := by decide +kernel
theorem dX4_waiting_145 : decode cX4_waiting 145 = .ok (.if_icmp .ne 7, 3) := by decide +kernel
theorem dX4_waiting_148 : decode cX4_waiting 148 = .ok (.iconst (-1), 1) := by decide +kernel
theorem dX4_waiting_149 : decode cX4_waiting 149 = .ok (.goto 9, 3) := by decide +kernel
theorem dX4_waiting_152 : decode cX4_waiting 152 = .ok (.iload_n 1, 1) := by decide +kernel
theorem dX4_waiting_153 : decode cX4_waiting 153 = .ok (.aload_n 0, 1) := by decide +kernel
theorem dX4_waiting_154 : decode cX4_waiting 154 = .ok (.getfield 110, 3) := by decide +kernel
theorem dX4_waiting_157 : decode cX4_waiting 157 = .ok (.isub, 1) := by decide +kernel
theorem dX4_waiting_158 : decode cX4_waiting 158 = .ok (.ireturn, 1) := by decide +kernel
theorem dX4_addsMore_0 : decode cX4_addsMore 0 = .ok (.aload_n 0, 1) := by decide +kernel
theorem dX4_addsMore_1 : decode cX4_addsMore 1 = .ok (.getfield 41, 3) := by decide +kernel
theorem dX4_addsMore_4 : decode cX4_addsMore 4 = .ok (.iload_n 1, 1) := by decide +kernel
theorem dX4_addsMore_5 : decode cX4_addsMore 5 = .ok (.iaload, 1) := by decide +kernel
theorem dX4_addsMore_6 : decode cX4_addsMore 6 = .ok (.i2l, 1) := by decide +kernel
theorem dX4_addsMore_7 : decode cX4_addsMore 7 = .ok (.lconst 1, 1) := by decide +kernel
theorem dX4_addsMore_8 : decode cX4_addsMore 8 = .ok (.ladd, 1) := by decide +kernel
theorem dX4_addsMore_9 : decode cX4_addsMore 9 = .ok (.aload_n 0, 1) := by decide +kernel
theorem dX4_addsMore_10 : decode cX4_addsMore 10 = .ok (.getfield 50, 3) := by decide +kernel
theorem dX4_addsMore_13 : decode cX4_addsMore 13 = .ok (.iload_n 1, 1) := by decide +kernel
theorem dX4_addsMore_14 : decode cX4_addsMore 14 = .ok (.iaload, 1) := by decide +kernel
theorem dX4_addsMore_15 : decode cX4_addsMore 15 = .ok (.i2l, 1) := by decide +kernel
theorem dX4_addsMore_16 : decode cX4_addsMore 16 = .ok (.lconst 1, 1) := by decide +kernel
theorem dX4_addsMore_17 : decode cX4_addsMore 17 = .ok (.ladd, 1) := by decide +kernel
theorem dX4_addsMore_18 : decode cX4_addsMore 18 = .ok (.lmul, 1) := by decide +kernel
theorem dX4_addsMore_19 : decode cX4_addsMore 19 = .ok (.lstore_n 3, 1) := by decide +kernel
theorem dX4_addsMore_20 : decode cX4_addsMore 20 = .ok (.aload_n 0, 1) := by decide +kernel
theorem dX4_addsMore_21 : decode cX4_addsMore 21 = .ok (.getfield 41, 3) := by decide +kernel
theorem dX4_addsMore_24 : decode cX4_addsMore 24 = .ok (.iload_n 2, 1) := by decide +kernel
theorem dX4_addsMore_25 : decode cX4_addsMore 25 = .ok (.iaload, 1) := by decide +kernel
theorem dX4_addsMore_26 : decode cX4_addsMore 26 = .ok (.i2l, 1) := by decide +kernel
theorem dX4_addsMore_27 : decode cX4_addsMore 27 = .ok (.lconst 1, 1) := by decide +kernel
theorem dX4_addsMore_28 : decode cX4_addsMore 28 = .ok (.ladd, 1) := by decide +kernel
theorem dX4_addsMore_29 : decode cX4_addsMore 29 = .ok (.aload_n 0, 1) := by decide +kernel
theorem dX4_addsMore_30 : decode cX4_addsMore 30 = .ok (.getfield 50, 3) := by decide +kernel
theorem dX4_addsMore_33 : decode cX4_addsMore 33 = .ok (.iload_n 2, 1) := by decide +kernel
theorem dX4_addsMore_34 : decode cX4_addsMore 34 = .ok (.iaload, 1) := by decide +kernel
theorem dX4_addsMore_35 : decode cX4_addsMore 35 = .ok (.i2l, 1) := by decide +kernel
theorem dX4_addsMore_36 : decode cX4_addsMore 36 = .ok (.lconst 1, 1) := by decide +kernel
theorem dX4_addsMore_37 : decode cX4_addsMore 37 = .ok (.ladd, 1) := by decide +kernel
theorem dX4_addsMore_38 : decode cX4_addsMore 38 = .ok (.lmul, 1) := by decide +kernel
theorem dX4_addsMore_39 : decode cX4_addsMore 39 = .ok (.lstore 5, 2) := by decide +kernel
theorem dX4_addsMore_41 : decode cX4_addsMore 41 = .ok (.aload_n 0, 1) := by decide +kernel
theorem dX4_addsMore_42 : decode cX4_addsMore 42 = .ok (.getfield 66, 3) := by decide +kernel
theorem dX4_addsMore_45 : decode cX4_addsMore 45 = .ok (.iload_n 1, 1) := by decide +kernel
theorem dX4_addsMore_46 : decode cX4_addsMore 46 = .ok (.iaload, 1) := by decide +kernel
theorem dX4_addsMore_47 : decode cX4_addsMore 47 = .ok (.aload_n 0, 1) := by decide +kernel
theorem dX4_addsMore_48 : decode cX4_addsMore 48 = .ok (.getfield 50, 3) := by decide +kernel
theorem dX4_addsMore_51 : decode cX4_addsMore 51 = .ok (.iload_n 1, 1) := by decide +kernel
theorem dX4_addsMore_52 : decode cX4_addsMore 52 = .ok (.iaload, 1) := by decide +kernel
theorem dX4_addsMore_53 : decode cX4_addsMore 53 = .ok (.iadd, 1) := by decide +kernel
theorem dX4_addsMore_54 : decode cX4_addsMore 54 = .ok (.i2l, 1) := by decide +kernel
theorem dX4_addsMore_55 : decode cX4_addsMore 55 = .ok (.lconst 1, 1) := by decide +kernel
theorem dX4_addsMore_56 : decode cX4_addsMore 56 = .ok (.ladd, 1) := by decide +kernel
theorem dX4_addsMore_57 : decode cX4_addsMore 57 = .ok (.aload_n 0, 1) := by decide +kernel
theorem dX4_addsMore_58 : decode cX4_addsMore 58 = .ok (.getfield 66, 3) := by decide +kernel
theorem dX4_addsMore_61 : decode cX4_addsMore 61 = .ok (.iload_n 1, 1) := by decide +kernel
theorem dX4_addsMore_62 : decode cX4_addsMore 62 = .ok (.iaload, 1) := by decide +kernel
theorem dX4_addsMore_63 : decode cX4_addsMore 63 = .ok (.aload_n 0, 1) := by decide +kernel
theorem dX4_addsMore_64 : decode cX4_addsMore 64 = .ok (.getfield 50, 3) := by decide +kernel
theorem dX4_addsMore_67 : decode cX4_addsMore 67 = .ok (.iload_n 1, 1) := by decide +kernel
theorem dX4_addsMore_68 : decode cX4_addsMore 68 = .ok (.iaload, 1) := by decide +kernel
theorem dX4_addsMore_69 : decode cX4_addsMore 69 = .ok (.iadd, 1) := by decide +kernel
theorem dX4_addsMore_70 : decode cX4_addsMore 70 = .ok (.i2l, 1) := by decide +kernel
theorem dX4_addsMore_71 : decode cX4_addsMore 71 = .ok (.ldc2_w 136, 3) := by decide +kernel
theorem dX4_addsMore_74 : decode cX4_addsMore 74 = .ok (.ladd, 1) := by decide +kernel
theorem dX4_addsMore_75 : decode cX4_addsMore 75 = .ok (.lmul, 1) := by decide +kernel
theorem dX4_addsMore_76 : decode cX4_addsMore 76 = .ok (.lstore 7, 2) := by decide +kernel
theorem dX4_addsMore_78 : decode cX4_addsMore 78 = .ok (.aload_n 0, 1) := by decide +kernel
theorem dX4_addsMore_79 : decode cX4_addsMore 79 = .ok (.getfield 66, 3) := by decide +kernel
theorem dX4_addsMore_82 : decode cX4_addsMore 82 = .ok (.iload_n 2, 1) := by decide +kernel
theorem dX4_addsMore_83 : decode cX4_addsMore 83 = .ok (.iaload, 1) := by decide +kernel
theorem dX4_addsMore_84 : decode cX4_addsMore 84 = .ok (.aload_n 0, 1) := by decide +kernel
theorem dX4_addsMore_85 : decode cX4_addsMore 85 = .ok (.getfield 50, 3) := by decide +kernel
theorem dX4_addsMore_88 : decode cX4_addsMore 88 = .ok (.iload_n 2, 1) := by decide +kernel
theorem dX4_addsMore_89 : decode cX4_addsMore 89 = .ok (.iaload, 1) := by decide +kernel
theorem dX4_addsMore_90 : decode cX4_addsMore 90 = .ok (.iadd, 1) := by decide +kernel
theorem dX4_addsMore_91 : decode cX4_addsMore 91 = .ok (.i2l, 1) := by decide +kernel
theorem dX4_addsMore_92 : decode cX4_addsMore 92 = .ok (.lconst 1, 1) := by decide +kernel
theorem dX4_addsMore_93 : decode cX4_addsMore 93 = .ok (.ladd, 1) := by decide +kernel
theorem dX4_addsMore_94 : decode cX4_addsMore 94 = .ok (.aload_n 0, 1) := by decide +kernel
theorem dX4_addsMore_95 : decode cX4_addsMore 95 = .ok (.getfield 66, 3) := by decide +kernel
theorem dX4_addsMore_98 : decode cX4_addsMore 98 = .ok (.iload_n 2, 1) := by decide +kernel
theorem dX4_addsMore_99 : decode cX4_addsMore 99 = .ok (.iaload, 1) := by decide +kernel
theorem dX4_addsMore_100 : decode cX4_addsMore 100 = .ok (.aload_n 0, 1) := by decide +kernel
theorem dX4_addsMore_101 : decode cX4_addsMore 101 = .ok (.getfield 50, 3) := by decide +kernel
theorem dX4_addsMore_104 : decode cX4_addsMore 104 = .ok (.iload_n 2, 1) := by decide +kernel
theorem dX4_addsMore_105 : decode cX4_addsMore 105 = .ok (.iaload, 1) := by decide +kernel
theorem dX4_addsMore_106 : decode cX4_addsMore 106 = .ok (.iadd, 1) := by decide +kernel
theorem dX4_addsMore_107 : decode cX4_addsMore 107 = .ok (.i2l, 1) := by decide +kernel
theorem dX4_addsMore_108 : decode cX4_addsMore 108 = .ok (.ldc2_w 136, 3) := by decide +kernel
theorem dX4_addsMore_111 : decode cX4_addsMore 111 = .ok (.ladd, 1) := by decide +kernel
theorem dX4_addsMore_112 : decode cX4_addsMore 112 = .ok (.lmul, 1) := by decide +kernel
theorem dX4_addsMore_113 : decode cX4_addsMore 113 = .ok (.lstore 9, 2) := by decide +kernel
theorem dX4_addsMore_115 : decode cX4_addsMore 115 = .ok (.lload_n 3, 1) := by decide +kernel
theorem dX4_addsMore_116 : decode cX4_addsMore 116 = .ok (.lload 9, 2) := by decide +kernel
theorem dX4_addsMore_118 : decode cX4_addsMore 118 = .ok (.lmul, 1) := by decide +kernel
theorem dX4_addsMore_119 : decode cX4_addsMore 119 = .ok (.lload 5, 2) := by decide +kernel
theorem dX4_addsMore_121 : decode cX4_addsMore 121 = .ok (.lload 7, 2) := by decide +kernel
theorem dX4_addsMore_123 : decode cX4_addsMore 123 = .ok (.lmul, 1) := by decide +kernel
theorem dX4_addsMore_124 : decode cX4_addsMore 124 = .ok (.lcmp, 1) := by decide +kernel
theorem dX4_addsMore_125 : decode cX4_addsMore 125 = .ok (.ifCond .le 7, 3) := by decide +kernel
theorem dX4_addsMore_128 : decode cX4_addsMore 128 = .ok (.iconst 1, 1) := by decide +kernel
theorem dX4_addsMore_129 : decode cX4_addsMore 129 = .ok (.goto 4, 3) := by decide +kernel
theorem dX4_addsMore_132 : decode cX4_addsMore 132 = .ok (.iconst 0, 1) := by decide +kernel
theorem dX4_addsMore_133 : decode cX4_addsMore 133 = .ok (.ireturn, 1) := by decide +kernel
set_option maxRecDepth 20000 in
theorem ggX4_share_X4_isPage : GoodIn wsX4_share wsX4_isPage := goodIn_r _ [8, 2, 9, 10, 7, 11, 29, 30, 31, 32, 33, 34, 35, 36, 37, 38, 39, 40, 41, 42, 43, 44, 45, 46, 47, 48, 49, 50, 51, 52, 53, 54] (by decide +kernel) (by decide +kernel)
set_option maxRecDepth 20000 in
theorem gX4_share_X4_isPage : GoodIn wsX4_share (wsV RX4 79 RX4 yX4_isPage wsX4_isPage) := goodIn_app (goodIn_of _ (by decide +kernel)) ggX4_share_X4_isPage
set_option maxRecDepth 20000 in
theorem ggX4_share_X4_fails : GoodIn wsX4_share wsX4_fails := goodIn_r _ [15, 1, 29, 30, 31, 32, 33, 34, 35, 36, 37, 38, 39, 40, 41, 42, 43, 44, 45, 46, 47, 48, 49, 50, 51, 52, 53, 54] (by decide +kernel) (by decide +kernel)
set_option maxRecDepth 20000 in
theorem gX4_share_X4_fails : GoodIn wsX4_share (wsV RX4 96 RX4 yX4_fails wsX4_fails) := goodIn_app (goodIn_of _ (by decide +kernel)) ggX4_share_X4_fails
set_option maxRecDepth 20000 in
theorem ggX4_share_X4_in : GoodIn wsX4_share wsX4_in := goodIn_r _ [11] (by decide +kernel) (by decide +kernel)
set_option maxRecDepth 20000 in
theorem gX4_share_X4_in : GoodIn wsX4_share (va_wsS RX4 72 yX4_in wsX4_in) := goodIn_app (goodIn_of _ (by decide +kernel)) ggX4_share_X4_in
set_option maxRecDepth 20000 in
theorem ggX4_share_X4_counts : GoodIn wsX4_share wsX4_counts := goodIn_r _ [19, 20, 21, 29, 30, 31, 32, 33, 34, 35, 36, 37, 38, 39, 40, 41, 42, 43, 44, 45, 46, 47, 48, 49, 50, 51, 52, 53, 54] (by decide +kernel) (by decide +kernel)
set_option maxRecDepth 20000 in
theorem gX4_share_X4_counts : GoodIn wsX4_share (wsV RX4 116 RX4 yX4_counts wsX4_counts) := goodIn_app (goodIn_of _ (by decide +kernel)) ggX4_share_X4_counts
set_option maxRecDepth 20000 in
theorem ggX4_share_X4_addsMore : GoodIn wsX4_share wsX4_addsMore := goodIn_r _ [25, 26, 27, 3, 28, 29, 30, 31, 32, 33, 34, 35, 36, 37, 38, 39, 40, 41, 42, 43, 44, 45, 46, 47, 48, 49, 50, 51, 52, 53, 54] (by decide +kernel) (by decide +kernel)
set_option maxRecDepth 20000 in
theorem gX4_share_X4_addsMore : GoodIn wsX4_share (wsV RX4 138 RX4 yX4_addsMore wsX4_addsMore) := goodIn_app (goodIn_of _ (by decide +kernel)) ggX4_share_X4_addsMore
theorem dX4_share_0 : decode cX4_share 0 = .ok (.aload_n 0, 1) := by decide +kernel
theorem dX4_share_1 : decode cX4_share 1 = .ok (.iconst 0, 1) := by decide +kernel
theorem dX4_share_2 : decode cX4_share 2 = .ok (.putfield 69, 3) := by decide +kernel
theorem dX4_share_5 : decode cX4_share 5 = .ok (.aload_n 0, 1) := by decide +kernel
theorem dX4_share_6 : decode cX4_share 6 = .ok (.iload_n 1, 1) := by decide +kernel
theorem dX4_share_7 : decode cX4_share 7 = .ok (.invokevirtual 79, 3) := by decide +kernel
theorem dX4_share_10 : decode cX4_share 10 = .ok (.ifCond .ne 9, 3) := by decide +kernel
theorem dX4_share_13 : decode cX4_share 13 = .ok (.aload_n 0, 1) := by decide +kernel
theorem dX4_share_14 : decode cX4_share 14 = .ok (.iconst 1, 1) := by decide +kernel
theorem dX4_share_15 : decode cX4_share 15 = .ok (.invokevirtual 96, 3) := by decide +kernel
theorem dX4_share_18 : decode cX4_share 18 = .ok (.ireturn, 1) := by decide +kernel
theorem dX4_share_19 : decode cX4_share 19 = .ok (.iload_n 2, 1) := by decide +kernel
theorem dX4_share_20 : decode cX4_share 20 = .ok (.iconst 0, 1) := by decide +kernel
theorem dX4_share_21 : decode cX4_share 21 = .ok (.bipush 100, 2) := by decide +kernel
theorem dX4_share_23 : decode cX4_share 23 = .ok (.invokestatic 72, 3) := by decide +kernel
theorem dX4_share_26 : decode cX4_share 26 = .ok (.ifCond .ne 9, 3) := by decide +kernel
theorem dX4_share_29 : decode cX4_share 29 = .ok (.aload_n 0, 1) := by decide +kernel
theorem dX4_share_30 : decode cX4_share 30 = .ok (.iconst 2, 1) := by decide +kernel
theorem dX4_share_31 : decode cX4_share 31 = .ok (.invokevirtual 96, 3) := by decide +kernel
theorem dX4_share_34 : decode cX4_share 34 = .ok (.ireturn, 1) := by decide +kernel
theorem dX4_share_35 : decode cX4_share 35 = .ok (.iconst 0, 1) := by decide +kernel
theorem dX4_share_36 : decode cX4_share 36 = .ok (.istore_n 3, 1) := by decide +kernel
theorem dX4_share_37 : decode cX4_share 37 = .ok (.iload_n 3, 1) := by decide +kernel
theorem dX4_share_38 : decode cX4_share 38 = .ok (.aload_n 0, 1) := by decide +kernel
theorem dX4_share_39 : decode cX4_share 39 = .ok (.getfield 76, 3) := by decide +kernel
theorem dX4_share_42 : decode cX4_share 42 = .ok (.if_icmp .ge 16, 3) := by decide +kernel
theorem dX4_share_45 : decode cX4_share 45 = .ok (.aload_n 0, 1) := by decide +kernel
theorem dX4_share_46 : decode cX4_share 46 = .ok (.getfield 66, 3) := by decide +kernel
theorem dX4_share_49 : decode cX4_share 49 = .ok (.iload_n 3, 1) := by decide +kernel
theorem dX4_share_50 : decode cX4_share 50 = .ok (.iconst 0, 1) := by decide +kernel
theorem dX4_share_51 : decode cX4_share 51 = .ok (.iastore, 1) := by decide +kernel
theorem dX4_share_52 : decode cX4_share 52 = .ok (.iinc 3 1, 3) := by decide +kernel
theorem dX4_share_55 : decode cX4_share 55 = .ok (.goto (-18), 3) := by decide +kernel
theorem dX4_share_58 : decode cX4_share 58 = .ok (.iconst 0, 1) := by decide +kernel
theorem dX4_share_59 : decode cX4_share 59 = .ok (.istore_n 3, 1) := by decide +kernel
theorem dX4_share_60 : decode cX4_share 60 = .ok (.iload_n 3, 1) := by decide +kernel
theorem dX4_share_61 : decode cX4_share 61 = .ok (.iload_n 2, 1) := by decide +kernel
theorem dX4_share_62 : decode cX4_share 62 = .ok (.if_icmp .ge 82, 3) := by decide +kernel
theorem dX4_share_65 : decode cX4_share 65 = .ok (.iconst (-1), 1) := by decide +kernel
theorem dX4_share_66 : decode cX4_share 66 = .ok (.istore 4, 2) := by decide +kernel
theorem dX4_share_68 : decode cX4_share 68 = .ok (.iconst 0, 1) := by decide +kernel
theorem dX4_share_69 : decode cX4_share 69 = .ok (.istore 5, 2) := by decide +kernel
theorem dX4_share_71 : decode cX4_share 71 = .ok (.iload 5, 2) := by decide +kernel
theorem dX4_share_73 : decode cX4_share 73 = .ok (.aload_n 0, 1) := by decide +kernel
theorem dX4_share_74 : decode cX4_share 74 = .ok (.getfield 76, 3) := by decide +kernel
theorem dX4_share_77 : decode cX4_share 77 = .ok (.if_icmp .ge 44, 3) := by decide +kernel
theorem dX4_share_80 : decode cX4_share 80 = .ok (.aload_n 0, 1) := by decide +kernel
theorem dX4_share_81 : decode cX4_share 81 = .ok (.iload 5, 2) := by decide +kernel
theorem dX4_share_83 : decode cX4_share 83 = .ok (.invokevirtual 116, 3) := by decide +kernel
theorem dX4_share_86 : decode cX4_share 86 = .ok (.ifCond .eq 25, 3) := by decide +kernel
theorem dX4_share_89 : decode cX4_share 89 = .ok (.iload 4, 2) := by decide +kernel
theorem dX4_share_91 : decode cX4_share 91 = .ok (.iconst (-1), 1) := by decide +kernel
theorem dX4_share_92 : decode cX4_share 92 = .ok (.if_icmp .eq 14, 3) := by decide +kernel
theorem dX4_share_95 : decode cX4_share 95 = .ok (.aload_n 0, 1) := by decide +kernel
theorem dX4_share_96 : decode cX4_share 96 = .ok (.iload 5, 2) := by decide +kernel
theorem dX4_share_98 : decode cX4_share 98 = .ok (.iload 4, 2) := by decide +kernel
theorem dX4_share_100 : decode cX4_share 100 = .ok (.invokevirtual 138, 3) := by decide +kernel
theorem dX4_share_103 : decode cX4_share 103 = .ok (.ifCond .eq 8, 3) := by decide +kernel
theorem dX4_share_106 : decode cX4_share 106 = .ok (.iload 5, 2) := by decide +kernel
theorem dX4_share_108 : decode cX4_share 108 = .ok (.goto 5, 3) := by decide +kernel
theorem dX4_share_111 : decode cX4_share 111 = .ok (.iload 4, 2) := by decide +kernel
theorem dX4_share_113 : decode cX4_share 113 = .ok (.istore 4, 2) := by decide +kernel
theorem dX4_share_115 : decode cX4_share 115 = .ok (.iinc 5 1, 3) := by decide +kernel
theorem dX4_share_118 : decode cX4_share 118 = .ok (.goto (-47), 3) := by decide +kernel
theorem dX4_share_121 : decode cX4_share 121 = .ok (.iload 4, 2) := by decide +kernel
theorem dX4_share_123 : decode cX4_share 123 = .ok (.iconst (-1), 1) := by decide +kernel
theorem dX4_share_124 : decode cX4_share 124 = .ok (.if_icmp .eq 14, 3) := by decide +kernel
theorem dX4_share_127 : decode cX4_share 127 = .ok (.aload_n 0, 1) := by decide +kernel
theorem dX4_share_128 : decode cX4_share 128 = .ok (.getfield 66, 3) := by decide +kernel
theorem dX4_share_131 : decode cX4_share 131 = .ok (.iload 4, 2) := by decide +kernel
theorem dX4_share_133 : decode cX4_share 133 = .ok (.dup2, 1) := by decide +kernel
theorem dX4_share_134 : decode cX4_share 134 = .ok (.iaload, 1) := by decide +kernel
theorem dX4_share_135 : decode cX4_share 135 = .ok (.iconst 1, 1) := by decide +kernel
theorem dX4_share_136 : decode cX4_share 136 = .ok (.iadd, 1) := by decide +kernel
theorem dX4_share_137 : decode cX4_share 137 = .ok (.iastore, 1) := by decide +kernel
theorem dX4_share_138 : decode cX4_share 138 = .ok (.iinc 3 1, 3) := by decide +kernel
theorem dX4_share_141 : decode cX4_share 141 = .ok (.goto (-81), 3) := by decide +kernel
theorem dX4_share_144 : decode cX4_share 144 = .ok (.aload_n 0, 1) := by decide +kernel
theorem dX4_share_145 : decode cX4_share 145 = .ok (.getfield 66, 3) := by decide +kernel
theorem dX4_share_148 : decode cX4_share 148 = .ok (.iload_n 1, 1) := by decide +kernel
theorem dX4_share_149 : decode cX4_share 149 = .ok (.iaload, 1) := by decide +kernel
theorem dX4_share_150 : decode cX4_share 150 = .ok (.ireturn, 1) := by decide +kernel
theorem dJ9_max_7cf53_0 : decode cJ9_max_7cf53 0 = .ok (.iload_n 0, 1) := by decide +kernel
theorem dJ9_max_7cf53_1 : decode cJ9_max_7cf53 1 = .ok (.iload_n 1, 1) := by decide +kernel
theorem dJ9_max_7cf53_2 : decode cJ9_max_7cf53 2 = .ok (.if_icmp .lt 7, 3) := by decide +kernel
theorem dJ9_max_7cf53_5 : decode cJ9_max_7cf53 5 = .ok (.iload_n 0, 1) := by decide +kernel
theorem dJ9_max_7cf53_6 : decode cJ9_max_7cf53 6 = .ok (.goto 4, 3) := by decide +kernel
theorem dJ9_max_7cf53_9 : decode cJ9_max_7cf53 9 = .ok (.iload_n 1, 1) := by decide +kernel
theorem dJ9_max_7cf53_10 : decode cJ9_max_7cf53 10 = .ok (.ireturn, 1) := by decide +kernel
theorem dJ9_min_7cf53_0 : decode cJ9_min_7cf53 0 = .ok (.iload_n 0, 1) := by decide +kernel
theorem dJ9_min_7cf53_1 : decode cJ9_min_7cf53 1 = .ok (.iload_n 1, 1) := by decide +kernel
theorem dJ9_min_7cf53_2 : decode cJ9_min_7cf53 2 = .ok (.if_icmp .gt 7, 3) := by decide +kernel
theorem dJ9_min_7cf53_5 : decode cJ9_min_7cf53 5 = .ok (.iload_n 0, 1) := by decide +kernel
theorem dJ9_min_7cf53_6 : decode cJ9_min_7cf53 6 = .ok (.goto 4, 3) := by decide +kernel
theorem dJ9_min_7cf53_9 : decode cJ9_min_7cf53 9 = .ok (.iload_n 1, 1) := by decide +kernel
theorem dJ9_min_7cf53_10 : decode cJ9_min_7cf53 10 = .ok (.ireturn, 1) := by decide +kernel
set_option maxRecDepth 20000 in
theorem ggL_type_X3_type : GoodIn wsL_type wsX3_type := goodIn_ca (goodIn_ca (goodIn_r _ [7, 8, 9, 10, 11, 12, 13, 14, 15, 16, 17, 18, 19, 20, 21, 22, 23, 24, 25, 26, 27, 28, 29, 30, 31, 32, 33, 34, 35, 36, 37, 38, 39, 40, 41, 42, 43, 44, 45, 46, 47] (by decide +kernel) (by decide +kernel)) (goodIn_sub (fun _ h => List.mem_cons_of_mem _ (List.mem_append_left _ (List.mem_append_right _ h))) (by decide +kernel))) (goodIn_sub (fun _ h => List.mem_cons_of_mem _ (List.mem_append_right _ h)) (by decide +kernel))
set_option maxRecDepth 20000 in
theorem gL_type_X3_type : GoodIn wsL_type (wsV RL 7 RX3 yX3_type wsX3_type) := goodIn_app (goodIn_of _ (by decide +kernel)) ggL_type_X3_type
theorem dL_type_0 : decode cL_type 0 = .ok (.aload_n 2, 1) := by decide +kernel
theorem dL_type_1 : decode cL_type 1 = .ok (.iconst 0, 1) := by decide +kernel
theorem dL_type_2 : decode cL_type 2 = .ok (.aload_n 0, 1) := by decide +kernel
theorem dL_type_3 : decode cL_type 3 = .ok (.iload_n 1, 1) := by decide +kernel
theorem dL_type_4 : decode cL_type 4 = .ok (.invokevirtual 7, 3) := by decide +kernel
theorem dL_type_7 : decode cL_type 7 = .ok (.i2l, 1) := by decide +kernel
theorem dL_type_8 : decode cL_type 8 = .ok (.lastore, 1) := by decide +kernel
theorem dL_type_9 : decode cL_type 9 = .ok (.goto 9, 3) := by decide +kernel
theorem dL_type_12 : decode cL_type 12 = .ok (.astore_n 3, 1) := by decide +kernel
theorem dL_type_13 : decode cL_type 13 = .ok (.iconst 1, 1) := by decide +kernel
theorem dL_type_14 : decode cL_type 14 = .ok (.ireturn, 1) := by decide +kernel
theorem dL_type_15 : decode cL_type 15 = .ok (.astore_n 3, 1) := by decide +kernel
theorem dL_type_16 : decode cL_type 16 = .ok (.iconst 2, 1) := by decide +kernel
theorem dL_type_17 : decode cL_type 17 = .ok (.ireturn, 1) := by decide +kernel
theorem dL_type_18 : decode cL_type 18 = .ok (.iconst 0, 1) := by decide +kernel
theorem dL_type_19 : decode cL_type 19 = .ok (.ireturn, 1) := by decide +kernel
set_option maxRecDepth 20000 in
theorem ggL_setRest_X3_setRest : GoodIn wsL_setRest wsX3_setRest := goodIn_ca (goodIn_ca (goodIn_r _ [7, 8, 9, 10, 11, 12, 13, 6, 14, 15, 16, 17, 18, 19, 20, 21, 22, 23, 24, 25, 26, 27, 28, 29] (by decide +kernel) (by decide +kernel)) (goodIn_sub (fun _ h => List.mem_cons_of_mem _ (List.mem_append_left _ (List.mem_append_right _ h))) (by decide +kernel))) (goodIn_sub (fun _ h => List.mem_cons_of_mem _ (List.mem_append_right _ h)) (by decide +kernel))
set_option maxRecDepth 20000 in
theorem gL_setRest_X3_setRest : GoodIn wsL_setRest (wsV RL 17 RX3 yX3_setRest wsX3_setRest) := goodIn_app (goodIn_of _ (by decide +kernel)) ggL_setRest_X3_setRest
theorem dL_setRest_0 : decode cL_setRest 0 = .ok (.aload_n 3, 1) := by decide +kernel
theorem dL_setRest_1 : decode cL_setRest 1 = .ok (.iconst 0, 1) := by decide +kernel
theorem dL_setRest_2 : decode cL_setRest 2 = .ok (.aload_n 0, 1) := by decide +kernel
theorem dL_setRest_3 : decode cL_setRest 3 = .ok (.iload_n 1, 1) := by decide +kernel
theorem dL_setRest_4 : decode cL_setRest 4 = .ok (.iload_n 2, 1) := by decide +kernel
theorem dL_setRest_5 : decode cL_setRest 5 = .ok (.invokevirtual 17, 3) := by decide +kernel
theorem dL_setRest_8 : decode cL_setRest 8 = .ok (.i2l, 1) := by decide +kernel
theorem dL_setRest_9 : decode cL_setRest 9 = .ok (.lastore, 1) := by decide +kernel
theorem dL_setRest_10 : decode cL_setRest 10 = .ok (.goto 11, 3) := by decide +kernel
theorem dL_setRest_13 : decode cL_setRest 13 = .ok (.astore 4, 2) := by decide +kernel
theorem dL_setRest_15 : decode cL_setRest 15 = .ok (.iconst 1, 1) := by decide +kernel
theorem dL_setRest_16 : decode cL_setRest 16 = .ok (.ireturn, 1) := by decide +kernel
theorem dL_setRest_17 : decode cL_setRest 17 = .ok (.astore 4, 2) := by decide +kernel
theorem dL_setRest_19 : decode cL_setRest 19 = .ok (.iconst 2, 1) := by decide +kernel
theorem dL_setRest_20 : decode cL_setRest 20 = .ok (.ireturn, 1) := by decide +kernel
theorem dL_setRest_21 : decode cL_setRest 21 = .ok (.iconst 0, 1) := by decide +kernel
theorem dL_setRest_22 : decode cL_setRest 22 = .ok (.ireturn, 1) := by decide +kernel
set_option maxRecDepth 20000 in
theorem ggL_setPaces_X3_setPaces : GoodIn wsL_setPaces wsX3_setPaces := goodIn_ca (goodIn_r _ [6, 7, 8, 9, 10, 11, 12, 13, 14, 15, 16, 17, 18, 19] (by decide +kernel) (by decide +kernel)) (goodIn_sub (fun _ h => List.mem_cons_of_mem _ (List.mem_append_right _ h)) (by decide +kernel))
set_option maxRecDepth 20000 in
theorem gL_setPaces_X3_setPaces : GoodIn wsL_setPaces (wsV RL 23 RX3 yX3_setPaces wsX3_setPaces) := goodIn_app (goodIn_of _ (by decide +kernel)) ggL_setPaces_X3_setPaces
theorem dL_setPaces_0 : decode cL_setPaces 0 = .ok (.aload_n 0, 1) := by decide +kernel
theorem dL_setPaces_1 : decode cL_setPaces 1 = .ok (.iload_n 1, 1) := by decide +kernel
theorem dL_setPaces_2 : decode cL_setPaces 2 = .ok (.iload_n 2, 1) := by decide +kernel
theorem dL_setPaces_3 : decode cL_setPaces 3 = .ok (.invokevirtual 23, 3) := by decide +kernel
theorem dL_setPaces_6 : decode cL_setPaces 6 = .ok (.goto 6, 3) := by decide +kernel
theorem dL_setPaces_9 : decode cL_setPaces 9 = .ok (.astore_n 3, 1) := by decide +kernel
theorem dL_setPaces_10 : decode cL_setPaces 10 = .ok (.iconst 1, 1) := by decide +kernel
theorem dL_setPaces_11 : decode cL_setPaces 11 = .ok (.ireturn, 1) := by decide +kernel
theorem dL_setPaces_12 : decode cL_setPaces 12 = .ok (.iconst 0, 1) := by decide +kernel
theorem dL_setPaces_13 : decode cL_setPaces 13 = .ok (.ireturn, 1) := by decide +kernel
set_option maxRecDepth 20000 in
theorem ggL_setBudget_X3_setBudget : GoodIn wsL_setBudget wsX3_setBudget := goodIn_ca (goodIn_r _ [6, 7, 8, 9, 10, 11, 12, 13, 14, 15, 16, 17, 18] (by decide +kernel) (by decide +kernel)) (goodIn_sub (fun _ h => List.mem_cons_of_mem _ (List.mem_append_right _ h)) (by decide +kernel))
set_option maxRecDepth 20000 in
theorem gL_setBudget_X3_setBudget : GoodIn wsL_setBudget (wsV RL 27 RX3 yX3_setBudget wsX3_setBudget) := goodIn_app (goodIn_of _ (by decide +kernel)) ggL_setBudget_X3_setBudget
theorem dL_setBudget_0 : decode cL_setBudget 0 = .ok (.aload_n 2, 1) := by decide +kernel
theorem dL_setBudget_1 : decode cL_setBudget 1 = .ok (.iconst 0, 1) := by decide +kernel
theorem dL_setBudget_2 : decode cL_setBudget 2 = .ok (.aload_n 0, 1) := by decide +kernel
theorem dL_setBudget_3 : decode cL_setBudget 3 = .ok (.iload_n 1, 1) := by decide +kernel
theorem dL_setBudget_4 : decode cL_setBudget 4 = .ok (.invokevirtual 27, 3) := by decide +kernel
theorem dL_setBudget_7 : decode cL_setBudget 7 = .ok (.i2l, 1) := by decide +kernel
theorem dL_setBudget_8 : decode cL_setBudget 8 = .ok (.lastore, 1) := by decide +kernel
theorem dL_setBudget_9 : decode cL_setBudget 9 = .ok (.goto 6, 3) := by decide +kernel
theorem dL_setBudget_12 : decode cL_setBudget 12 = .ok (.astore_n 3, 1) := by decide +kernel
theorem dL_setBudget_13 : decode cL_setBudget 13 = .ok (.iconst 1, 1) := by decide +kernel
theorem dL_setBudget_14 : decode cL_setBudget 14 = .ok (.ireturn, 1) := by decide +kernel
theorem dL_setBudget_15 : decode cL_setBudget 15 = .ok (.iconst 0, 1) := by decide +kernel
theorem dL_setBudget_16 : decode cL_setBudget 16 = .ok (.ireturn, 1) := by decide +kernel
set_option maxRecDepth 20000 in
theorem ggL_failures_X3_failures : GoodIn wsL_failures wsX3_failures := goodIn_ca (goodIn_r _ [6, 7, 8, 9, 10, 5, 11, 12, 13, 14, 15, 16, 17, 18, 19, 20, 21, 22, 23, 24, 25, 26] (by decide +kernel) (by decide +kernel)) (goodIn_sub (fun _ h => List.mem_cons_of_mem _ (List.mem_append_right _ h)) (by decide +kernel))
set_option maxRecDepth 20000 in
theorem gL_failures_X3_failures : GoodIn wsL_failures (wsV RL 31 RX3 yX3_failures wsX3_failures) := goodIn_app (goodIn_of _ (by decide +kernel)) ggL_failures_X3_failures
theorem dL_failures_0 : decode cL_failures 0 = .ok (.aload_n 2, 1) := by decide +kernel
theorem dL_failures_1 : decode cL_failures 1 = .ok (.iconst 0, 1) := by decide +kernel
theorem dL_failures_2 : decode cL_failures 2 = .ok (.aload_n 0, 1) := by decide +kernel
theorem dL_failures_3 : decode cL_failures 3 = .ok (.iload_n 1, 1) := by decide +kernel
theorem dL_failures_4 : decode cL_failures 4 = .ok (.invokevirtual 31, 3) := by decide +kernel
theorem dL_failures_7 : decode cL_failures 7 = .ok (.i2l, 1) := by decide +kernel
theorem dL_failures_8 : decode cL_failures 8 = .ok (.lastore, 1) := by decide +kernel
theorem dL_failures_9 : decode cL_failures 9 = .ok (.goto 6, 3) := by decide +kernel
theorem dL_failures_12 : decode cL_failures 12 = .ok (.astore_n 3, 1) := by decide +kernel
theorem dL_failures_13 : decode cL_failures 13 = .ok (.iconst 1, 1) := by decide +kernel
theorem dL_failures_14 : decode cL_failures 14 = .ok (.ireturn, 1) := by decide +kernel
theorem dL_failures_15 : decode cL_failures 15 = .ok (.iconst 0, 1) := by decide +kernel
theorem dL_failures_16 : decode cL_failures 16 = .ok (.ireturn, 1) := by decide +kernel
set_option maxRecDepth 20000 in
theorem ggL_openFrom_X3_openFrom : GoodIn wsL_openFrom wsX3_openFrom := goodIn_ca (goodIn_r _ [6, 7, 8, 9, 10, 5, 11, 12, 13, 14, 15, 16, 17, 18, 19, 20, 21, 22, 23, 24, 25, 26] (by decide +kernel) (by decide +kernel)) (goodIn_sub (fun _ h => List.mem_cons_of_mem _ (List.mem_append_right _ h)) (by decide +kernel))
set_option maxRecDepth 20000 in
theorem gL_openFrom_X3_openFrom : GoodIn wsL_openFrom (wsV RL 34 RX3 yX3_openFrom wsX3_openFrom) := goodIn_app (goodIn_of _ (by decide +kernel)) ggL_openFrom_X3_openFrom
theorem dL_openFrom_0 : decode cL_openFrom 0 = .ok (.aload_n 2, 1) := by decide +kernel
theorem dL_openFrom_1 : decode cL_openFrom 1 = .ok (.iconst 0, 1) := by decide +kernel
theorem dL_openFrom_2 : decode cL_openFrom 2 = .ok (.aload_n 0, 1) := by decide +kernel
theorem dL_openFrom_3 : decode cL_openFrom 3 = .ok (.iload_n 1, 1) := by decide +kernel
theorem dL_openFrom_4 : decode cL_openFrom 4 = .ok (.invokevirtual 34, 3) := by decide +kernel
theorem dL_openFrom_7 : decode cL_openFrom 7 = .ok (.i2l, 1) := by decide +kernel
theorem dL_openFrom_8 : decode cL_openFrom 8 = .ok (.lastore, 1) := by decide +kernel
theorem dL_openFrom_9 : decode cL_openFrom 9 = .ok (.goto 6, 3) := by decide +kernel
theorem dL_openFrom_12 : decode cL_openFrom 12 = .ok (.astore_n 3, 1) := by decide +kernel
theorem dL_openFrom_13 : decode cL_openFrom 13 = .ok (.iconst 1, 1) := by decide +kernel
theorem dL_openFrom_14 : decode cL_openFrom 14 = .ok (.ireturn, 1) := by decide +kernel
theorem dL_openFrom_15 : decode cL_openFrom 15 = .ok (.iconst 0, 1) := by decide +kernel
theorem dL_openFrom_16 : decode cL_openFrom 16 = .ok (.ireturn, 1) := by decide +kernel
set_option maxRecDepth 20000 in
theorem ggL_find_X3_find : GoodIn wsL_find wsX3_find := goodIn_ca (goodIn_ca (goodIn_ca (goodIn_r _ [8, 9, 10, 11, 12, 13, 14, 15, 16, 17, 18, 19, 20, 21, 22, 23, 24, 7, 25, 26, 27, 28, 29, 30, 31, 32, 33, 34, 35, 36, 37, 38, 39, 40, 41, 42, 43, 44, 45, 46, 47, 48, 49, 50, 51, 52, 53, 54, 55, 56, 57, 58, 59, 60, 61, 62, 63, 64, 65, 66, 67, 68, 69, 70, 71, 72, 73, 74, 75, 76, 77, 78, 79, 80, 81, 82, 83, 84, 85, 86, 87, 88, 89, 90, 91, 92, 93, 94, 95, 96, 97, 98, 99, 100, 101, 102, 103, 104, 105, 106, 107, 108, 109, 110, 111, 112, 113, 114, 115, 116] (by decide +kernel) (by decide +kernel)) (goodIn_sub (fun _ h => List.mem_cons_of_mem _ (List.mem_append_left _ (List.mem_append_left _ (List.mem_append_right _ h)))) (by decide +kernel))) (goodIn_sub (fun _ h => List.mem_cons_of_mem _ (List.mem_append_left _ (List.mem_append_right _ h))) (by decide +kernel))) (goodIn_sub (fun _ h => List.mem_cons_of_mem _ (List.mem_append_right _ h)) (by decide +kernel))
set_option maxRecDepth 20000 in
theorem gL_find_X3_find : GoodIn wsL_find (wsV RL 37 RX3 yX3_find wsX3_find) := goodIn_app (goodIn_of _ (by decide +kernel)) ggL_find_X3_find
theorem dL_find_0 : decode cL_find 0 = .ok (.aload_n 3, 1) := by decide +kernel
theorem dL_find_1 : decode cL_find 1 = .ok (.iconst 0, 1) := by decide +kernel
theorem dL_find_2 : decode cL_find 2 = .ok (.aload_n 0, 1) := by decide +kernel
theorem dL_find_3 : decode cL_find 3 = .ok (.iload_n 1, 1) := by decide +kernel
theorem dL_find_4 : decode cL_find 4 = .ok (.iload_n 2, 1) := by decide +kernel
theorem dL_find_5 : decode cL_find 5 = .ok (.invokevirtual 37, 3) := by decide +kernel
theorem dL_find_8 : decode cL_find 8 = .ok (.i2l, 1) := by decide +kernel
theorem dL_find_9 : decode cL_find 9 = .ok (.lastore, 1) := by decide +kernel
theorem dL_find_10 : decode cL_find 10 = .ok (.goto 15, 3) := by decide +kernel
theorem dL_find_13 : decode cL_find 13 = .ok (.astore 4, 2) := by decide +kernel
theorem dL_find_15 : decode cL_find 15 = .ok (.iconst 1, 1) := by decide +kernel
theorem dL_find_16 : decode cL_find 16 = .ok (.ireturn, 1) := by decide +kernel
theorem dL_find_17 : decode cL_find 17 = .ok (.astore 4, 2) := by decide +kernel
theorem dL_find_19 : decode cL_find 19 = .ok (.iconst 2, 1) := by decide +kernel
theorem dL_find_20 : decode cL_find 20 = .ok (.ireturn, 1) := by decide +kernel
theorem dL_find_21 : decode cL_find 21 = .ok (.astore 4, 2) := by decide +kernel
theorem dL_find_23 : decode cL_find 23 = .ok (.iconst 3, 1) := by decide +kernel
theorem dL_find_24 : decode cL_find 24 = .ok (.ireturn, 1) := by decide +kernel
theorem dL_find_25 : decode cL_find 25 = .ok (.iconst 0, 1) := by decide +kernel
theorem dL_find_26 : decode cL_find 26 = .ok (.ireturn, 1) := by decide +kernel
set_option maxRecDepth 20000 in
theorem ggL_setRank_X3_setRank : GoodIn wsL_setRank wsX3_setRank := goodIn_ca (goodIn_ca (goodIn_r _ [7, 8, 9, 10, 11, 6, 12, 13, 14, 15, 16, 17, 18, 19, 20, 21, 22, 23, 24, 25, 26, 27, 28, 29, 30, 31, 32, 33, 34, 35, 36, 37, 38, 39] (by decide +kernel) (by decide +kernel)) (goodIn_sub (fun _ h => List.mem_cons_of_mem _ (List.mem_append_left _ (List.mem_append_right _ h))) (by decide +kernel))) (goodIn_sub (fun _ h => List.mem_cons_of_mem _ (List.mem_append_right _ h)) (by decide +kernel))
set_option maxRecDepth 20000 in
theorem gL_setRank_X3_setRank : GoodIn wsL_setRank (wsV RL 40 RX3 yX3_setRank wsX3_setRank) := goodIn_app (goodIn_of _ (by decide +kernel)) ggL_setRank_X3_setRank
theorem dL_setRank_0 : decode cL_setRank 0 = .ok (.aload_n 3, 1) := by decide +kernel
theorem dL_setRank_1 : decode cL_setRank 1 = .ok (.iconst 0, 1) := by decide +kernel
theorem dL_setRank_2 : decode cL_setRank 2 = .ok (.aload_n 0, 1) := by decide +kernel
theorem dL_setRank_3 : decode cL_setRank 3 = .ok (.iload_n 1, 1) := by decide +kernel
theorem dL_setRank_4 : decode cL_setRank 4 = .ok (.iload_n 2, 1) := by decide +kernel
theorem dL_setRank_5 : decode cL_setRank 5 = .ok (.invokevirtual 40, 3) := by decide +kernel
theorem dL_setRank_8 : decode cL_setRank 8 = .ok (.i2l, 1) := by decide +kernel
theorem dL_setRank_9 : decode cL_setRank 9 = .ok (.lastore, 1) := by decide +kernel
theorem dL_setRank_10 : decode cL_setRank 10 = .ok (.goto 11, 3) := by decide +kernel
theorem dL_setRank_13 : decode cL_setRank 13 = .ok (.astore 4, 2) := by decide +kernel
theorem dL_setRank_15 : decode cL_setRank 15 = .ok (.iconst 1, 1) := by decide +kernel
theorem dL_setRank_16 : decode cL_setRank 16 = .ok (.ireturn, 1) := by decide +kernel
theorem dL_setRank_17 : decode cL_setRank 17 = .ok (.astore 4, 2) := by decide +kernel
theorem dL_setRank_19 : decode cL_setRank 19 = .ok (.iconst 2, 1) := by decide +kernel
theorem dL_setRank_20 : decode cL_setRank 20 = .ok (.ireturn, 1) := by decide +kernel
theorem dL_setRank_21 : decode cL_setRank 21 = .ok (.iconst 0, 1) := by decide +kernel
theorem dL_setRank_22 : decode cL_setRank 22 = .ok (.ireturn, 1) := by decide +kernel
set_option maxRecDepth 20000 in
theorem ggL_dueAt_X3_dueAt : GoodIn wsL_dueAt wsX3_dueAt := goodIn_ca (goodIn_r _ [6, 7, 8, 9, 10, 5, 11, 12, 13, 14, 15, 16, 17, 18, 19, 20, 21, 22, 23, 24, 25, 26, 27, 28, 29, 30, 31, 32, 33, 34, 35, 36, 37, 38, 39, 40] (by decide +kernel) (by decide +kernel)) (goodIn_sub (fun _ h => List.mem_cons_of_mem _ (List.mem_append_right _ h)) (by decide +kernel))
set_option maxRecDepth 20000 in
theorem gL_dueAt_X3_dueAt : GoodIn wsL_dueAt (wsV RL 43 RX3 yX3_dueAt wsX3_dueAt) := goodIn_app (goodIn_of _ (by decide +kernel)) ggL_dueAt_X3_dueAt
theorem dL_dueAt_0 : decode cL_dueAt 0 = .ok (.aload_n 2, 1) := by decide +kernel
theorem dL_dueAt_1 : decode cL_dueAt 1 = .ok (.iconst 0, 1) := by decide +kernel
theorem dL_dueAt_2 : decode cL_dueAt 2 = .ok (.aload_n 0, 1) := by decide +kernel
theorem dL_dueAt_3 : decode cL_dueAt 3 = .ok (.iload_n 1, 1) := by decide +kernel
theorem dL_dueAt_4 : decode cL_dueAt 4 = .ok (.invokevirtual 43, 3) := by decide +kernel
theorem dL_dueAt_7 : decode cL_dueAt 7 = .ok (.i2l, 1) := by decide +kernel
theorem dL_dueAt_8 : decode cL_dueAt 8 = .ok (.lastore, 1) := by decide +kernel
theorem dL_dueAt_9 : decode cL_dueAt 9 = .ok (.goto 6, 3) := by decide +kernel
theorem dL_dueAt_12 : decode cL_dueAt 12 = .ok (.astore_n 3, 1) := by decide +kernel
theorem dL_dueAt_13 : decode cL_dueAt 13 = .ok (.iconst 1, 1) := by decide +kernel
theorem dL_dueAt_14 : decode cL_dueAt 14 = .ok (.ireturn, 1) := by decide +kernel
theorem dL_dueAt_15 : decode cL_dueAt 15 = .ok (.iconst 0, 1) := by decide +kernel
theorem dL_dueAt_16 : decode cL_dueAt 16 = .ok (.ireturn, 1) := by decide +kernel
set_option maxRecDepth 20000 in
theorem ggL_visits_X3_visits : GoodIn wsL_visits wsX3_visits := goodIn_ca (goodIn_r _ [6, 7, 8, 9, 10, 5, 11, 12, 13, 14, 15, 16, 17, 18, 19, 20, 21, 22, 23, 24, 25, 26, 27, 28, 29, 30, 31, 32, 33] (by decide +kernel) (by decide +kernel)) (goodIn_sub (fun _ h => List.mem_cons_of_mem _ (List.mem_append_right _ h)) (by decide +kernel))
set_option maxRecDepth 20000 in
theorem gL_visits_X3_visits : GoodIn wsL_visits (wsV RL 46 RX3 yX3_visits wsX3_visits) := goodIn_app (goodIn_of _ (by decide +kernel)) ggL_visits_X3_visits
theorem dL_visits_0 : decode cL_visits 0 = .ok (.aload_n 2, 1) := by decide +kernel
theorem dL_visits_1 : decode cL_visits 1 = .ok (.iconst 0, 1) := by decide +kernel
theorem dL_visits_2 : decode cL_visits 2 = .ok (.aload_n 0, 1) := by decide +kernel
theorem dL_visits_3 : decode cL_visits 3 = .ok (.iload_n 1, 1) := by decide +kernel
theorem dL_visits_4 : decode cL_visits 4 = .ok (.invokevirtual 46, 3) := by decide +kernel
theorem dL_visits_7 : decode cL_visits 7 = .ok (.i2l, 1) := by decide +kernel
theorem dL_visits_8 : decode cL_visits 8 = .ok (.lastore, 1) := by decide +kernel
theorem dL_visits_9 : decode cL_visits 9 = .ok (.goto 6, 3) := by decide +kernel
theorem dL_visits_12 : decode cL_visits 12 = .ok (.astore_n 3, 1) := by decide +kernel
theorem dL_visits_13 : decode cL_visits 13 = .ok (.iconst 1, 1) := by decide +kernel
theorem dL_visits_14 : decode cL_visits 14 = .ok (.ireturn, 1) := by decide +kernel
theorem dL_visits_15 : decode cL_visits 15 = .ok (.iconst 0, 1) := by decide +kernel
theorem dL_visits_16 : decode cL_visits 16 = .ok (.ireturn, 1) := by decide +kernel
set_option maxRecDepth 20000 in
theorem ggL_changes_X3_changes : GoodIn wsL_changes wsX3_changes := goodIn_ca (goodIn_r _ [6, 7, 8, 9, 10, 5, 11, 12, 13, 14, 15, 16, 17, 18, 19, 20, 21, 22, 23, 24, 25, 26, 27, 28, 29, 30, 31, 32, 33] (by decide +kernel) (by decide +kernel)) (goodIn_sub (fun _ h => List.mem_cons_of_mem _ (List.mem_append_right _ h)) (by decide +kernel))
set_option maxRecDepth 20000 in
theorem gL_changes_X3_changes : GoodIn wsL_changes (wsV RL 49 RX3 yX3_changes wsX3_changes) := goodIn_app (goodIn_of _ (by decide +kernel)) ggL_changes_X3_changes
theorem dL_changes_0 : decode cL_changes 0 = .ok (.aload_n 2, 1) := by decide +kernel
theorem dL_changes_1 : decode cL_changes 1 = .ok (.iconst 0, 1) := by decide +kernel
theorem dL_changes_2 : decode cL_changes 2 = .ok (.aload_n 0, 1) := by decide +kernel
theorem dL_changes_3 : decode cL_changes 3 = .ok (.iload_n 1, 1) := by decide +kernel
theorem dL_changes_4 : decode cL_changes 4 = .ok (.invokevirtual 49, 3) := by decide +kernel
theorem dL_changes_7 : decode cL_changes 7 = .ok (.i2l, 1) := by decide +kernel
theorem dL_changes_8 : decode cL_changes 8 = .ok (.lastore, 1) := by decide +kernel
theorem dL_changes_9 : decode cL_changes 9 = .ok (.goto 6, 3) := by decide +kernel
theorem dL_changes_12 : decode cL_changes 12 = .ok (.astore_n 3, 1) := by decide +kernel
theorem dL_changes_13 : decode cL_changes 13 = .ok (.iconst 1, 1) := by decide +kernel
theorem dL_changes_14 : decode cL_changes 14 = .ok (.ireturn, 1) := by decide +kernel
theorem dL_changes_15 : decode cL_changes 15 = .ok (.iconst 0, 1) := by decide +kernel
theorem dL_changes_16 : decode cL_changes 16 = .ok (.ireturn, 1) := by decide +kernel
set_option maxRecDepth 20000 in
theorem ggL_mayVisit_X3_mayVisit : GoodIn wsL_mayVisit wsX3_mayVisit := goodIn_ca (goodIn_r _ [6, 7, 8, 9, 5, 10, 11, 12, 13, 14, 15, 16, 17, 18, 19, 20, 21, 22, 23, 24, 25, 26, 27, 28, 29, 30, 31, 32, 33, 34, 35, 36, 37, 38, 39, 40, 41, 42, 43, 44, 45, 46, 47, 48, 49, 50, 51, 52, 53, 54, 55, 56, 57, 58, 59, 60, 61, 62, 63, 64, 65, 66, 67, 68] (by decide +kernel) (by decide +kernel)) (goodIn_sub (fun _ h => List.mem_cons_of_mem _ (List.mem_append_right _ h)) (by decide +kernel))
set_option maxRecDepth 20000 in
theorem gL_mayVisit_X3_mayVisit : GoodIn wsL_mayVisit (wsV RL 52 RX3 yX3_mayVisit wsX3_mayVisit) := goodIn_app (goodIn_of _ (by decide +kernel)) ggL_mayVisit_X3_mayVisit
theorem dL_mayVisit_0 : decode cL_mayVisit 0 = .ok (.aload_n 2, 1) := by decide +kernel
theorem dL_mayVisit_1 : decode cL_mayVisit 1 = .ok (.iconst 0, 1) := by decide +kernel
theorem dL_mayVisit_2 : decode cL_mayVisit 2 = .ok (.aload_n 0, 1) := by decide +kernel
theorem dL_mayVisit_3 : decode cL_mayVisit 3 = .ok (.iload_n 1, 1) := by decide +kernel
theorem dL_mayVisit_4 : decode cL_mayVisit 4 = .ok (.invokevirtual 52, 3) := by decide +kernel
theorem dL_mayVisit_7 : decode cL_mayVisit 7 = .ok (.ifCond .eq 7, 3) := by decide +kernel
theorem dL_mayVisit_10 : decode cL_mayVisit 10 = .ok (.lconst 1, 1) := by decide +kernel
theorem dL_mayVisit_11 : decode cL_mayVisit 11 = .ok (.goto 4, 3) := by decide +kernel
theorem dL_mayVisit_14 : decode cL_mayVisit 14 = .ok (.lconst 0, 1) := by decide +kernel
theorem dL_mayVisit_15 : decode cL_mayVisit 15 = .ok (.lastore, 1) := by decide +kernel
theorem dL_mayVisit_16 : decode cL_mayVisit 16 = .ok (.goto 6, 3) := by decide +kernel
theorem dL_mayVisit_19 : decode cL_mayVisit 19 = .ok (.astore_n 3, 1) := by decide +kernel
theorem dL_mayVisit_20 : decode cL_mayVisit 20 = .ok (.iconst 1, 1) := by decide +kernel
theorem dL_mayVisit_21 : decode cL_mayVisit 21 = .ok (.ireturn, 1) := by decide +kernel
theorem dL_mayVisit_22 : decode cL_mayVisit 22 = .ok (.iconst 0, 1) := by decide +kernel
theorem dL_mayVisit_23 : decode cL_mayVisit 23 = .ok (.ireturn, 1) := by decide +kernel
set_option maxRecDepth 20000 in
theorem ggL_visit_X3_visit : GoodIn wsL_visit wsX3_visit := goodIn_ca (goodIn_ca (goodIn_ca (goodIn_r _ [8, 9, 10, 11, 12, 13, 14, 15, 16, 17, 18, 19, 7, 20, 21, 22, 23, 24, 25, 26, 27, 28, 29, 30, 31, 32, 33, 34, 35, 36, 37, 38, 39, 40, 41, 42, 43, 44, 45, 46, 47, 48, 49, 50, 51, 52, 53, 54, 55, 56, 57, 58, 59, 60, 61, 62, 63, 64, 65, 66, 67, 68, 69, 70, 71, 72, 73, 74, 75, 76, 77, 78, 79, 80, 81, 82, 83, 84, 85, 86, 87, 88, 89, 90, 91, 92, 93, 94, 95, 96, 97, 98, 99, 100, 101, 102, 103] (by decide +kernel) (by decide +kernel)) (goodIn_sub (fun _ h => List.mem_cons_of_mem _ (List.mem_append_left _ (List.mem_append_left _ (List.mem_append_right _ h)))) (by decide +kernel))) (goodIn_sub (fun _ h => List.mem_cons_of_mem _ (List.mem_append_left _ (List.mem_append_right _ h))) (by decide +kernel))) (goodIn_sub (fun _ h => List.mem_cons_of_mem _ (List.mem_append_right _ h)) (by decide +kernel))
set_option maxRecDepth 20000 in
theorem gL_visit_X3_visit : GoodIn wsL_visit (wsV RL 56 RX3 yX3_visit wsX3_visit) := goodIn_app (goodIn_of _ (by decide +kernel)) ggL_visit_X3_visit
theorem dL_visit_0 : decode cL_visit 0 = .ok (.aload_n 3, 1) := by decide +kernel
theorem dL_visit_1 : decode cL_visit 1 = .ok (.iconst 0, 1) := by decide +kernel
theorem dL_visit_2 : decode cL_visit 2 = .ok (.aload_n 0, 1) := by decide +kernel
theorem dL_visit_3 : decode cL_visit 3 = .ok (.iload_n 1, 1) := by decide +kernel
theorem dL_visit_4 : decode cL_visit 4 = .ok (.iload_n 2, 1) := by decide +kernel
theorem dL_visit_5 : decode cL_visit 5 = .ok (.invokevirtual 56, 3) := by decide +kernel
theorem dL_visit_8 : decode cL_visit 8 = .ok (.i2l, 1) := by decide +kernel
theorem dL_visit_9 : decode cL_visit 9 = .ok (.lastore, 1) := by decide +kernel
theorem dL_visit_10 : decode cL_visit 10 = .ok (.goto 15, 3) := by decide +kernel
theorem dL_visit_13 : decode cL_visit 13 = .ok (.astore 4, 2) := by decide +kernel
theorem dL_visit_15 : decode cL_visit 15 = .ok (.iconst 1, 1) := by decide +kernel
theorem dL_visit_16 : decode cL_visit 16 = .ok (.ireturn, 1) := by decide +kernel
theorem dL_visit_17 : decode cL_visit 17 = .ok (.astore 4, 2) := by decide +kernel
theorem dL_visit_19 : decode cL_visit 19 = .ok (.iconst 2, 1) := by decide +kernel
theorem dL_visit_20 : decode cL_visit 20 = .ok (.ireturn, 1) := by decide +kernel
theorem dL_visit_21 : decode cL_visit 21 = .ok (.astore 4, 2) := by decide +kernel
theorem dL_visit_23 : decode cL_visit 23 = .ok (.iconst 3, 1) := by decide +kernel
theorem dL_visit_24 : decode cL_visit 24 = .ok (.ireturn, 1) := by decide +kernel
theorem dL_visit_25 : decode cL_visit 25 = .ok (.iconst 0, 1) := by decide +kernel
theorem dL_visit_26 : decode cL_visit 26 = .ok (.ireturn, 1) := by decide +kernel
set_option maxRecDepth 20000 in
theorem ggL_pass_X3_pass : GoodIn wsL_pass wsX3_pass := goodIn_ca (goodIn_ca (goodIn_r _ [7, 8, 9, 10, 11, 12, 13, 14, 15, 16, 17, 6, 18, 19, 20, 21, 22, 23, 24, 25, 26, 27] (by decide +kernel) (by decide +kernel)) (goodIn_sub (fun _ h => List.mem_cons_of_mem _ (List.mem_append_left _ (List.mem_append_right _ h))) (by decide +kernel))) (goodIn_sub (fun _ h => List.mem_cons_of_mem _ (List.mem_append_right _ h)) (by decide +kernel))
set_option maxRecDepth 20000 in
theorem gL_pass_X3_pass : GoodIn wsL_pass (wsV RL 59 RX3 yX3_pass wsX3_pass) := goodIn_app (goodIn_of _ (by decide +kernel)) ggL_pass_X3_pass
theorem dL_pass_0 : decode cL_pass 0 = .ok (.aload_n 2, 1) := by decide +kernel
theorem dL_pass_1 : decode cL_pass 1 = .ok (.iconst 0, 1) := by decide +kernel
theorem dL_pass_2 : decode cL_pass 2 = .ok (.aload_n 0, 1) := by decide +kernel
theorem dL_pass_3 : decode cL_pass 3 = .ok (.iload_n 1, 1) := by decide +kernel
theorem dL_pass_4 : decode cL_pass 4 = .ok (.invokevirtual 59, 3) := by decide +kernel
theorem dL_pass_7 : decode cL_pass 7 = .ok (.i2l, 1) := by decide +kernel
theorem dL_pass_8 : decode cL_pass 8 = .ok (.lastore, 1) := by decide +kernel
theorem dL_pass_9 : decode cL_pass 9 = .ok (.goto 9, 3) := by decide +kernel
theorem dL_pass_12 : decode cL_pass 12 = .ok (.astore_n 3, 1) := by decide +kernel
theorem dL_pass_13 : decode cL_pass 13 = .ok (.iconst 1, 1) := by decide +kernel
theorem dL_pass_14 : decode cL_pass 14 = .ok (.ireturn, 1) := by decide +kernel
theorem dL_pass_15 : decode cL_pass 15 = .ok (.astore_n 3, 1) := by decide +kernel
theorem dL_pass_16 : decode cL_pass 16 = .ok (.iconst 2, 1) := by decide +kernel
theorem dL_pass_17 : decode cL_pass 17 = .ok (.ireturn, 1) := by decide +kernel
theorem dL_pass_18 : decode cL_pass 18 = .ok (.iconst 0, 1) := by decide +kernel
theorem dL_pass_19 : decode cL_pass 19 = .ok (.ireturn, 1) := by decide +kernel
set_option maxRecDepth 20000 in
theorem ggL_share_X3_share : GoodIn wsL_share wsX3_share := goodIn_ca (goodIn_ca (goodIn_r _ [7, 8, 9, 10, 11, 12, 13, 6, 14, 15, 16, 17, 18, 19, 20, 21, 22, 23, 24, 25, 26, 27, 28, 29, 30, 31, 32, 33, 34, 35, 36, 37, 38, 39, 40, 41, 42, 43, 44, 45, 46, 47, 48, 49, 50, 51, 52, 53, 54, 55, 56, 57, 58, 59, 60, 61, 62, 63, 64, 65, 66, 67] (by decide +kernel) (by decide +kernel)) (goodIn_sub (fun _ h => List.mem_cons_of_mem _ (List.mem_append_left _ (List.mem_append_right _ h))) (by decide +kernel))) (goodIn_sub (fun _ h => List.mem_cons_of_mem _ (List.mem_append_right _ h)) (by decide +kernel))
set_option maxRecDepth 20000 in
theorem gL_share_X3_share : GoodIn wsL_share (wsV RL 62 RX3 yX3_share wsX3_share) := goodIn_app (goodIn_of _ (by decide +kernel)) ggL_share_X3_share
theorem dL_share_0 : decode cL_share 0 = .ok (.aload_n 3, 1) := by decide +kernel
theorem dL_share_1 : decode cL_share 1 = .ok (.iconst 0, 1) := by decide +kernel
theorem dL_share_2 : decode cL_share 2 = .ok (.aload_n 0, 1) := by decide +kernel
theorem dL_share_3 : decode cL_share 3 = .ok (.iload_n 1, 1) := by decide +kernel
theorem dL_share_4 : decode cL_share 4 = .ok (.iload_n 2, 1) := by decide +kernel
theorem dL_share_5 : decode cL_share 5 = .ok (.invokevirtual 62, 3) := by decide +kernel
theorem dL_share_8 : decode cL_share 8 = .ok (.i2l, 1) := by decide +kernel
theorem dL_share_9 : decode cL_share 9 = .ok (.lastore, 1) := by decide +kernel
theorem dL_share_10 : decode cL_share 10 = .ok (.goto 11, 3) := by decide +kernel
theorem dL_share_13 : decode cL_share 13 = .ok (.astore 4, 2) := by decide +kernel
theorem dL_share_15 : decode cL_share 15 = .ok (.iconst 1, 1) := by decide +kernel
theorem dL_share_16 : decode cL_share 16 = .ok (.ireturn, 1) := by decide +kernel
theorem dL_share_17 : decode cL_share 17 = .ok (.astore 4, 2) := by decide +kernel
theorem dL_share_19 : decode cL_share 19 = .ok (.iconst 2, 1) := by decide +kernel
theorem dL_share_20 : decode cL_share 20 = .ok (.ireturn, 1) := by decide +kernel
theorem dL_share_21 : decode cL_share 21 = .ok (.iconst 0, 1) := by decide +kernel
theorem dL_share_22 : decode cL_share 22 = .ok (.ireturn, 1) := by decide +kernel
set_option maxRecDepth 20000 in
theorem ggL_law_X3_init : GoodIn wsL_law wsX3_init := goodIn_r _ [9, 10, 11, 12, 13, 14, 15, 16, 17, 18, 19, 20, 21, 22, 23, 24, 25, 26, 27, 28, 29, 30, 31, 32, 33, 34, 35, 36, 37, 597, 598, 599, 600, 562, 563, 564, 565, 566, 567, 568, 569, 570, 601, 602, 603] (by decide +kernel) (by decide +kernel)
set_option maxRecDepth 20000 in
theorem gL_law_X3_init : GoodIn wsL_law (wsX3_init) := ggL_law_X3_init
set_option maxRecDepth 20000 in
theorem ggL_law_X4_init : GoodIn wsL_law wsX4_init := goodIn_r _ [40, 41, 11, 12, 32, 42, 43, 44, 45, 46, 47, 48, 49, 50, 51, 52, 53, 54, 55, 56, 57, 58, 59, 60, 61, 571, 572, 573, 574, 575, 576, 577, 578, 579, 580, 581, 582, 583, 584, 585, 586, 587, 588, 589, 590, 591, 592, 593, 594, 595, 596] (by decide +kernel) (by decide +kernel)
set_option maxRecDepth 20000 in
theorem gL_law_X4_init : GoodIn wsL_law (wsX4_init) := ggL_law_X4_init
set_option maxRecDepth 20000 in
theorem ggL_law_L_type : GoodIn wsL_law wsL_type := goodIn_ca (goodIn_ca (goodIn_r _ [65, 66, 67, 68, 69, 70, 2, 71, 72, 73, 74, 75, 16, 76, 77, 78, 79, 15, 80, 81, 31, 82, 83, 84, 85, 86, 87, 88, 89, 90, 91, 92, 93, 94, 33, 562, 563, 564, 565, 566, 567, 568, 569, 570, 597, 598, 599, 600] (by decide +kernel) (by decide +kernel)) (goodIn_sub (fun _ h => List.mem_append_left _ (List.mem_append_left _ (List.mem_append_right _ h))) (by decide +kernel))) (goodIn_sub (fun _ h => List.mem_append_left _ (List.mem_append_right _ h)) (by decide +kernel))
set_option maxRecDepth 20000 in
theorem gL_law_L_type : GoodIn wsL_law (va_wsS RL 69 yL_type wsL_type) := goodIn_app (goodIn_of _ (by decide +kernel)) ggL_law_L_type
set_option maxRecDepth 20000 in
theorem ggL_law_X4_type : GoodIn wsL_law wsX4_type := goodIn_r _ [98, 99, 100, 42, 101, 102, 5, 103, 104, 105, 106, 107, 571, 572, 573, 574, 575, 576, 577, 578, 579, 580, 581, 582, 583, 584, 585, 586, 587, 588, 589, 590, 591, 592, 593, 594, 595, 596] (by decide +kernel) (by decide +kernel)
set_option maxRecDepth 20000 in
theorem gL_law_X4_type : GoodIn wsL_law (wsV RL 74 RX4 yX4_type wsX4_type) := goodIn_app (goodIn_of _ (by decide +kernel)) ggL_law_X4_type
set_option maxRecDepth 20000 in
theorem ggL_law_X4_thrown : GoodIn wsL_law wsX4_thrown := goodIn_r _ [111, 99, 571, 572, 573, 574, 575, 576, 577, 578, 579, 580, 581, 582, 583, 584, 585, 586, 587, 588, 589, 590, 591, 592, 593, 594, 595, 596] (by decide +kernel) (by decide +kernel)
set_option maxRecDepth 20000 in
theorem gL_law_X4_thrown : GoodIn wsL_law (wsV RL 75 RX4 yX4_thrown wsX4_thrown) := goodIn_app (goodIn_of _ (by decide +kernel)) ggL_law_X4_thrown
set_option maxRecDepth 20000 in
theorem ggL_law_X3_clearAddress : GoodIn wsL_law wsX3_clearAddress := goodIn_r _ [115, 16, 76, 116, 117, 118, 15, 119, 81, 94, 562, 563, 564, 565, 566, 567, 568, 569, 570, 597, 598, 599, 600] (by decide +kernel) (by decide +kernel)
set_option maxRecDepth 20000 in
theorem gL_law_X3_clearAddress : GoodIn wsL_law (wsV RL 79 RX3 yX3_clearAddress wsX3_clearAddress) := goodIn_app (goodIn_of _ (by decide +kernel)) ggL_law_X3_clearAddress
set_option maxRecDepth 20000 in
theorem ggL_law_X4_clearAddress : GoodIn wsL_law wsX4_clearAddress := goodIn_r _ [123, 99, 100, 571, 572, 573, 574, 575, 576, 577, 578, 579, 580, 581, 582, 583, 584, 585, 586, 587, 588, 589, 590, 591, 592, 593, 594, 595, 596] (by decide +kernel) (by decide +kernel)
set_option maxRecDepth 20000 in
theorem gL_law_X4_clearAddress : GoodIn wsL_law (wsV RL 82 RX4 yX4_clearAddress wsX4_clearAddress) := goodIn_app (goodIn_of _ (by decide +kernel)) ggL_law_X4_clearAddress
set_option maxRecDepth 20000 in
theorem ggL_law_X3_segments : GoodIn wsL_law wsX3_segments := goodIn_r _ [127, 16, 128, 562, 563, 564, 565, 566, 567, 568, 569, 570, 597, 598, 599, 600] (by decide +kernel) (by decide +kernel)
set_option maxRecDepth 20000 in
theorem gL_law_X3_segments : GoodIn wsL_law (wsV RL 83 RX3 yX3_segments wsX3_segments) := goodIn_app (goodIn_of _ (by decide +kernel)) ggL_law_X3_segments
set_option maxRecDepth 20000 in
theorem ggL_law_X4_segments : GoodIn wsL_law wsX4_segments := goodIn_r _ [132, 99, 133, 134, 135, 136, 5, 137, 100, 42, 59, 60, 571, 572, 573, 574, 575, 576, 577, 578, 579, 580, 581, 582, 583, 584, 585, 586, 587, 588, 589, 590, 591, 592, 593, 594, 595, 596] (by decide +kernel) (by decide +kernel)
set_option maxRecDepth 20000 in
theorem gL_law_X4_segments : GoodIn wsL_law (wsV RL 86 RX4 yX4_segments wsX4_segments) := goodIn_app (goodIn_of _ (by decide +kernel)) ggL_law_X4_segments
set_option maxRecDepth 20000 in
theorem ggL_law_X3_isTrap : GoodIn wsL_law wsX3_isTrap := goodIn_r _ [141, 16, 142, 143, 144, 15, 145, 146, 147, 148, 149, 94, 150, 151, 152, 153, 81, 154, 155, 156, 157, 33, 86, 87, 88, 89, 31, 562, 563, 564, 565, 566, 567, 568, 569, 570, 597, 598, 599, 600] (by decide +kernel) (by decide +kernel)
set_option maxRecDepth 20000 in
theorem gL_law_X3_isTrap : GoodIn wsL_law (wsV RL 87 RX3 yX3_isTrap wsX3_isTrap) := goodIn_app (goodIn_of _ (by decide +kernel)) ggL_law_X3_isTrap
set_option maxRecDepth 20000 in
theorem ggL_law_X4_isTrap : GoodIn wsL_law wsX4_isTrap := goodIn_r _ [161, 99, 162, 163, 164, 5, 165, 133, 134, 135, 136, 137, 100, 42, 59, 60, 166, 167, 168, 169, 571, 572, 573, 574, 575, 576, 577, 578, 579, 580, 581, 582, 583, 584, 585, 586, 587, 588, 589, 590, 591, 592, 593, 594, 595, 596] (by decide +kernel) (by decide +kernel)
set_option maxRecDepth 20000 in
theorem gL_law_X4_isTrap : GoodIn wsL_law (wsV RL 91 RX4 yX4_isTrap wsX4_isTrap) := goodIn_app (goodIn_of _ (by decide +kernel)) ggL_law_X4_isTrap
set_option maxRecDepth 20000 in
theorem ggL_law_L_setRest : GoodIn wsL_law wsL_setRest := goodIn_ca (goodIn_ca (goodIn_r _ [172, 173, 66, 174, 175, 176, 2, 177, 72, 73, 178, 179, 180, 181, 182, 183, 184, 18, 601, 602, 603, 562, 563, 564, 565, 566, 567, 568, 569, 570] (by decide +kernel) (by decide +kernel)) (goodIn_sub (fun _ h => List.mem_append_left _ (List.mem_append_left _ (List.mem_append_right _ h))) (by decide +kernel))) (goodIn_sub (fun _ h => List.mem_append_right _ h) (by decide +kernel))
set_option maxRecDepth 20000 in
theorem gL_law_L_setRest : GoodIn wsL_law (va_wsS RL 92 yL_setRest wsL_setRest) := goodIn_app (goodIn_of _ (by decide +kernel)) ggL_law_L_setRest
set_option maxRecDepth 20000 in
theorem ggL_law_X4_setRest : GoodIn wsL_law wsX4_setRest := goodIn_r _ [188, 99, 43, 189, 190, 5, 191, 101, 102, 103, 104, 105, 106, 107, 571, 572, 573, 574, 575, 576, 577, 578, 579, 580, 581, 582, 583, 584, 585, 586, 587, 588, 589, 590, 591, 592, 593, 594, 595, 596] (by decide +kernel) (by decide +kernel)
set_option maxRecDepth 20000 in
theorem gL_law_X4_setRest : GoodIn wsL_law (wsV RL 95 RX4 yX4_setRest wsX4_setRest) := goodIn_app (goodIn_of _ (by decide +kernel)) ggL_law_X4_setRest
set_option maxRecDepth 20000 in
theorem ggL_law_L_setPaces : GoodIn wsL_law wsL_setPaces := goodIn_ca (goodIn_r _ [194, 66, 195, 196, 197, 2, 198, 72, 73, 23, 24, 562, 563, 564, 565, 566, 567, 568, 569, 570] (by decide +kernel) (by decide +kernel)) (goodIn_sub (fun _ h => List.mem_append_left _ (List.mem_append_left _ (List.mem_append_right _ h))) (by decide +kernel))
set_option maxRecDepth 20000 in
theorem gL_law_L_setPaces : GoodIn wsL_law (va_wsS RL 96 yL_setPaces wsL_setPaces) := goodIn_app (goodIn_of _ (by decide +kernel)) ggL_law_L_setPaces
set_option maxRecDepth 20000 in
theorem ggL_law_X4_setPaces : GoodIn wsL_law wsX4_setPaces := goodIn_r _ [202, 99, 46, 47, 101, 102, 5, 103, 571, 572, 573, 574, 575, 576, 577, 578, 579, 580, 581, 582, 583, 584, 585, 586, 587, 588, 589, 590, 591, 592, 593, 594, 595, 596] (by decide +kernel) (by decide +kernel)
set_option maxRecDepth 20000 in
theorem gL_law_X4_setPaces : GoodIn wsL_law (wsV RL 99 RX4 yX4_setPaces wsX4_setPaces) := goodIn_app (goodIn_of _ (by decide +kernel)) ggL_law_X4_setPaces
set_option maxRecDepth 20000 in
theorem ggL_law_L_setBudget : GoodIn wsL_law wsL_setBudget := goodIn_ca (goodIn_r _ [205, 66, 206, 207, 208, 2, 209, 72, 73, 25, 562, 563, 564, 565, 566, 567, 568, 569, 570] (by decide +kernel) (by decide +kernel)) (goodIn_sub (fun _ h => List.mem_append_left _ (List.mem_append_left _ (List.mem_append_right _ h))) (by decide +kernel))
set_option maxRecDepth 20000 in
theorem gL_law_L_setBudget : GoodIn wsL_law (va_wsS RL 100 yL_setBudget wsL_setBudget) := goodIn_app (goodIn_of _ (by decide +kernel)) ggL_law_L_setBudget
set_option maxRecDepth 20000 in
theorem ggL_law_X4_setBudget : GoodIn wsL_law wsX4_setBudget := goodIn_r _ [213, 99, 48, 101, 102, 5, 103, 104, 105, 106, 107, 571, 572, 573, 574, 575, 576, 577, 578, 579, 580, 581, 582, 583, 584, 585, 586, 587, 588, 589, 590, 591, 592, 593, 594, 595, 596] (by decide +kernel) (by decide +kernel)
set_option maxRecDepth 20000 in
theorem gL_law_X4_setBudget : GoodIn wsL_law (wsV RL 103 RX4 yX4_setBudget wsX4_setBudget) := goodIn_app (goodIn_of _ (by decide +kernel)) ggL_law_X4_setBudget
set_option maxRecDepth 20000 in
theorem ggL_law_L_failures : GoodIn wsL_law wsL_failures := goodIn_ca (goodIn_r _ [216, 173, 217, 218, 219, 2, 220, 221, 179, 180, 181, 182, 183, 184, 18, 601, 602, 603, 562, 563, 564, 565, 566, 567, 568, 569, 570] (by decide +kernel) (by decide +kernel)) (goodIn_sub (fun _ h => List.mem_append_right _ h) (by decide +kernel))
set_option maxRecDepth 20000 in
theorem gL_law_L_failures : GoodIn wsL_law (va_wsS RL 104 yL_failures wsL_failures) := goodIn_app (goodIn_of _ (by decide +kernel)) ggL_law_L_failures
set_option maxRecDepth 20000 in
theorem ggL_law_X4_failures : GoodIn wsL_law wsX4_failures := goodIn_r _ [225, 99, 44, 189, 190, 5, 191, 101, 102, 103, 104, 105, 106, 107, 571, 572, 573, 574, 575, 576, 577, 578, 579, 580, 581, 582, 583, 584, 585, 586, 587, 588, 589, 590, 591, 592, 593, 594, 595, 596] (by decide +kernel) (by decide +kernel)
set_option maxRecDepth 20000 in
theorem gL_law_X4_failures : GoodIn wsL_law (wsV RL 106 RX4 yX4_failures wsX4_failures) := goodIn_app (goodIn_of _ (by decide +kernel)) ggL_law_X4_failures
set_option maxRecDepth 20000 in
theorem ggL_law_L_openFrom : GoodIn wsL_law wsL_openFrom := goodIn_ca (goodIn_r _ [228, 173, 229, 230, 231, 2, 232, 233, 179, 180, 181, 182, 183, 184, 18, 601, 602, 603, 562, 563, 564, 565, 566, 567, 568, 569, 570] (by decide +kernel) (by decide +kernel)) (goodIn_sub (fun _ h => List.mem_append_right _ h) (by decide +kernel))
set_option maxRecDepth 20000 in
theorem gL_law_L_openFrom : GoodIn wsL_law (va_wsS RL 107 yL_openFrom wsL_openFrom) := goodIn_app (goodIn_of _ (by decide +kernel)) ggL_law_L_openFrom
set_option maxRecDepth 20000 in
theorem ggL_law_X4_openFrom : GoodIn wsL_law wsX4_openFrom := goodIn_r _ [237, 99, 45, 189, 190, 5, 191, 101, 102, 103, 104, 105, 106, 107, 571, 572, 573, 574, 575, 576, 577, 578, 579, 580, 581, 582, 583, 584, 585, 586, 587, 588, 589, 590, 591, 592, 593, 594, 595, 596] (by decide +kernel) (by decide +kernel)
set_option maxRecDepth 20000 in
theorem gL_law_X4_openFrom : GoodIn wsL_law (wsV RL 109 RX4 yX4_openFrom wsX4_openFrom) := goodIn_app (goodIn_of _ (by decide +kernel)) ggL_law_X4_openFrom
set_option maxRecDepth 20000 in
theorem ggL_law_L_find : GoodIn wsL_law wsL_find := goodIn_ca (goodIn_ca (goodIn_ca (goodIn_r _ [240, 173, 66, 67, 241, 242, 243, 2, 244, 74, 75, 245, 246, 22, 21, 247, 248, 13, 14, 15, 16, 249, 179, 180, 181, 182, 183, 184, 18, 250, 251, 252, 72, 73, 253, 254, 255, 256, 257, 258, 259, 260, 261, 262, 81, 86, 87, 88, 89, 31, 263, 264, 265, 29, 11, 12, 266, 267, 268, 269, 270, 271, 33, 272, 273, 274, 275, 94, 276, 277, 278, 279, 280, 281, 282, 283, 284, 285, 286, 143, 144, 145, 146, 147, 148, 149, 150, 151, 152, 153, 154, 155, 156, 157, 604, 605, 606, 607, 608, 609, 610, 611, 612, 613, 562, 563, 564, 565, 566, 567, 568, 569, 570, 597, 598, 599, 600] (by decide +kernel) (by decide +kernel)) (goodIn_sub (fun _ h => List.mem_append_left _ (List.mem_append_right _ h)) (by decide +kernel))) (goodIn_sub (fun _ h => List.mem_append_right _ h) (by decide +kernel))) (goodIn_sub (fun _ h => List.mem_append_left _ (List.mem_append_left _ (List.mem_append_right _ h))) (by decide +kernel))
set_option maxRecDepth 20000 in
theorem gL_law_L_find : GoodIn wsL_law (va_wsS RL 110 yL_find wsL_find) := goodIn_app (goodIn_of _ (by decide +kernel)) ggL_law_L_find
set_option maxRecDepth 20000 in
theorem ggL_law_X4_find : GoodIn wsL_law wsX4_find := goodIn_r _ [290, 99, 291, 51, 100, 49, 42, 50, 52, 53, 292, 58, 189, 190, 5, 191, 101, 102, 103, 104, 105, 106, 107, 293, 294, 295, 296, 162, 163, 164, 165, 133, 134, 135, 136, 137, 59, 60, 166, 167, 168, 169, 571, 572, 573, 574, 575, 576, 577, 578, 579, 580, 581, 582, 583, 584, 585, 586, 587, 588, 589, 590, 591, 592, 593, 594, 595, 596] (by decide +kernel) (by decide +kernel)
set_option maxRecDepth 20000 in
theorem gL_law_X4_find : GoodIn wsL_law (wsV RL 112 RX4 yX4_find wsX4_find) := goodIn_app (goodIn_of _ (by decide +kernel)) ggL_law_X4_find
set_option maxRecDepth 20000 in
theorem ggL_law_L_setRank : GoodIn wsL_law wsL_setRank := goodIn_ca (goodIn_ca (goodIn_r _ [299, 173, 66, 300, 301, 302, 2, 303, 304, 305, 306, 307, 308, 183, 184, 22, 250, 251, 252, 72, 73, 604, 605, 606, 607, 608, 609, 610, 611, 612, 613, 562, 563, 564, 565, 566, 567, 568, 569, 570] (by decide +kernel) (by decide +kernel)) (goodIn_sub (fun _ h => List.mem_append_right _ h) (by decide +kernel))) (goodIn_sub (fun _ h => List.mem_append_left _ (List.mem_append_left _ (List.mem_append_right _ h))) (by decide +kernel))
set_option maxRecDepth 20000 in
theorem gL_law_L_setRank : GoodIn wsL_law (va_wsS RL 113 yL_setRank wsL_setRank) := goodIn_app (goodIn_of _ (by decide +kernel)) ggL_law_L_setRank
set_option maxRecDepth 20000 in
theorem ggL_law_X4_setRank : GoodIn wsL_law wsX4_setRank := goodIn_r _ [312, 99, 52, 313, 314, 315, 5, 316, 291, 101, 102, 103, 104, 105, 106, 107, 571, 572, 573, 574, 575, 576, 577, 578, 579, 580, 581, 582, 583, 584, 585, 586, 587, 588, 589, 590, 591, 592, 593, 594, 595, 596] (by decide +kernel) (by decide +kernel)
set_option maxRecDepth 20000 in
theorem gL_law_X4_setRank : GoodIn wsL_law (wsV RL 115 RX4 yX4_setRank wsX4_setRank) := goodIn_app (goodIn_of _ (by decide +kernel)) ggL_law_X4_setRank
set_option maxRecDepth 20000 in
theorem ggL_law_X3_pages : GoodIn wsL_law wsX3_pages := goodIn_r _ [320, 246, 562, 563, 564, 565, 566, 567, 568, 569, 570] (by decide +kernel) (by decide +kernel)
set_option maxRecDepth 20000 in
theorem gL_law_X3_pages : GoodIn wsL_law (wsV RL 116 RX3 yX3_pages wsX3_pages) := goodIn_app (goodIn_of _ (by decide +kernel)) ggL_law_X3_pages
set_option maxRecDepth 20000 in
theorem ggL_law_X4_pages : GoodIn wsL_law wsX4_pages := goodIn_r _ [324, 99, 291, 571, 572, 573, 574, 575, 576, 577, 578, 579, 580, 581, 582, 583, 584, 585, 586, 587, 588, 589, 590, 591, 592, 593, 594, 595, 596] (by decide +kernel) (by decide +kernel)
set_option maxRecDepth 20000 in
theorem gL_law_X4_pages : GoodIn wsL_law (wsV RL 119 RX4 yX4_pages wsX4_pages) := goodIn_app (goodIn_of _ (by decide +kernel)) ggL_law_X4_pages
set_option maxRecDepth 20000 in
theorem ggL_law_L_dueAt : GoodIn wsL_law wsL_dueAt := goodIn_ca (goodIn_r _ [327, 173, 328, 329, 330, 2, 331, 332, 305, 306, 307, 308, 183, 184, 22, 333, 334, 335, 248, 336, 337, 283, 604, 605, 606, 607, 608, 609, 610, 611, 612, 613, 562, 563, 564, 565, 566, 567, 568, 569, 570] (by decide +kernel) (by decide +kernel)) (goodIn_sub (fun _ h => List.mem_append_right _ h) (by decide +kernel))
set_option maxRecDepth 20000 in
theorem gL_law_L_dueAt : GoodIn wsL_law (va_wsS RL 120 yL_dueAt wsL_dueAt) := goodIn_app (goodIn_of _ (by decide +kernel)) ggL_law_L_dueAt
set_option maxRecDepth 20000 in
theorem ggL_law_X4_dueAt : GoodIn wsL_law wsX4_dueAt := goodIn_r _ [341, 53, 342, 343, 344, 5, 345, 99, 313, 314, 315, 316, 291, 101, 102, 103, 346, 347, 348, 349, 57, 58, 571, 572, 573, 574, 575, 576, 577, 578, 579, 580, 581, 582, 583, 584, 585, 586, 587, 588, 589, 590, 591, 592, 593, 594, 595, 596] (by decide +kernel) (by decide +kernel)
set_option maxRecDepth 20000 in
theorem gL_law_X4_dueAt : GoodIn wsL_law (wsV RL 122 RX4 yX4_dueAt wsX4_dueAt) := goodIn_app (goodIn_of _ (by decide +kernel)) ggL_law_X4_dueAt
set_option maxRecDepth 20000 in
theorem ggL_law_L_visits : GoodIn wsL_law wsL_visits := goodIn_ca (goodIn_r _ [352, 173, 353, 354, 355, 2, 356, 357, 305, 306, 307, 308, 183, 184, 22, 604, 605, 606, 607, 608, 609, 610, 611, 612, 613, 562, 563, 564, 565, 566, 567, 568, 569, 570] (by decide +kernel) (by decide +kernel)) (goodIn_sub (fun _ h => List.mem_append_right _ h) (by decide +kernel))
set_option maxRecDepth 20000 in
theorem gL_law_L_visits : GoodIn wsL_law (va_wsS RL 123 yL_visits wsL_visits) := goodIn_app (goodIn_of _ (by decide +kernel)) ggL_law_L_visits
set_option maxRecDepth 20000 in
theorem ggL_law_X4_visits : GoodIn wsL_law wsX4_visits := goodIn_r _ [361, 54, 342, 343, 344, 5, 345, 99, 313, 314, 315, 316, 291, 101, 102, 103, 571, 572, 573, 574, 575, 576, 577, 578, 579, 580, 581, 582, 583, 584, 585, 586, 587, 588, 589, 590, 591, 592, 593, 594, 595, 596] (by decide +kernel) (by decide +kernel)
set_option maxRecDepth 20000 in
theorem gL_law_X4_visits : GoodIn wsL_law (wsV RL 125 RX4 yX4_visits wsX4_visits) := goodIn_app (goodIn_of _ (by decide +kernel)) ggL_law_X4_visits
set_option maxRecDepth 20000 in
theorem ggL_law_L_changes : GoodIn wsL_law wsL_changes := goodIn_ca (goodIn_r _ [364, 173, 365, 366, 367, 2, 368, 369, 305, 306, 307, 308, 183, 184, 22, 604, 605, 606, 607, 608, 609, 610, 611, 612, 613, 562, 563, 564, 565, 566, 567, 568, 569, 570] (by decide +kernel) (by decide +kernel)) (goodIn_sub (fun _ h => List.mem_append_right _ h) (by decide +kernel))
set_option maxRecDepth 20000 in
theorem gL_law_L_changes : GoodIn wsL_law (va_wsS RL 126 yL_changes wsL_changes) := goodIn_app (goodIn_of _ (by decide +kernel)) ggL_law_L_changes
set_option maxRecDepth 20000 in
theorem ggL_law_X4_changes : GoodIn wsL_law wsX4_changes := goodIn_r _ [373, 55, 342, 343, 344, 5, 345, 99, 313, 314, 315, 316, 291, 101, 102, 103, 571, 572, 573, 574, 575, 576, 577, 578, 579, 580, 581, 582, 583, 584, 585, 586, 587, 588, 589, 590, 591, 592, 593, 594, 595, 596] (by decide +kernel) (by decide +kernel)
set_option maxRecDepth 20000 in
theorem gL_law_X4_changes : GoodIn wsL_law (wsV RL 128 RX4 yX4_changes wsX4_changes) := goodIn_app (goodIn_of _ (by decide +kernel)) ggL_law_X4_changes
set_option maxRecDepth 20000 in
theorem ggL_law_L_mayVisit : GoodIn wsL_law wsL_mayVisit := goodIn_ca (goodIn_r _ [376, 173, 377, 378, 379, 2, 380, 305, 306, 307, 308, 183, 184, 22, 381, 382, 383, 384, 249, 333, 334, 335, 248, 336, 337, 283, 385, 386, 387, 388, 332, 257, 233, 389, 390, 391, 392, 393, 394, 395, 396, 25, 397, 398, 399, 400, 401, 562, 563, 564, 565, 566, 567, 568, 569, 570, 604, 605, 606, 607, 608, 609, 610, 611, 612, 613, 601, 602, 603] (by decide +kernel) (by decide +kernel)) (goodIn_sub (fun _ h => List.mem_append_right _ h) (by decide +kernel))
set_option maxRecDepth 20000 in
theorem gL_law_L_mayVisit : GoodIn wsL_law (va_wsS RL 129 yL_mayVisit wsL_mayVisit) := goodIn_app (goodIn_of _ (by decide +kernel)) ggL_law_L_mayVisit
set_option maxRecDepth 20000 in
theorem ggL_law_X4_mayVisit : GoodIn wsL_law wsX4_mayVisit := goodIn_r _ [405, 342, 343, 344, 5, 345, 99, 313, 314, 315, 316, 291, 101, 102, 103, 406, 407, 408, 409, 53, 292, 45, 51, 346, 347, 348, 349, 57, 58, 410, 411, 412, 413, 414, 415, 48, 571, 572, 573, 574, 575, 576, 577, 578, 579, 580, 581, 582, 583, 584, 585, 586, 587, 588, 589, 590, 591, 592, 593, 594, 595, 596] (by decide +kernel) (by decide +kernel)
set_option maxRecDepth 20000 in
theorem gL_law_X4_mayVisit : GoodIn wsL_law (wsV RL 131 RX4 yX4_mayVisit wsX4_mayVisit) := goodIn_app (goodIn_of _ (by decide +kernel)) ggL_law_X4_mayVisit
set_option maxRecDepth 20000 in
theorem ggL_law_X3_next : GoodIn wsL_law wsX3_next := goodIn_r _ [419, 18, 420, 421, 422, 2, 423, 22, 257, 381, 382, 383, 384, 249, 333, 334, 335, 248, 336, 337, 283, 385, 386, 387, 388, 332, 233, 389, 390, 391, 392, 393, 394, 395, 396, 25, 397, 398, 399, 400, 401, 424, 425, 426, 427, 428, 429, 430, 431, 304, 245, 432, 433, 434, 435, 284, 285, 436, 437, 438, 562, 563, 564, 565, 566, 567, 568, 569, 570, 604, 605, 606, 607, 608, 609, 610, 611, 612, 613, 601, 602, 603] (by decide +kernel) (by decide +kernel)
set_option maxRecDepth 20000 in
theorem gL_law_X3_next : GoodIn wsL_law (wsV RL 132 RX3 yX3_next wsX3_next) := goodIn_app (goodIn_of _ (by decide +kernel)) ggL_law_X3_next
set_option maxRecDepth 20000 in
theorem ggL_law_X4_next : GoodIn wsL_law wsX4_next := goodIn_r _ [442, 99, 443, 444, 445, 5, 446, 291, 52, 292, 53, 406, 407, 408, 409, 45, 51, 346, 347, 348, 349, 57, 58, 410, 411, 412, 413, 414, 415, 48, 571, 572, 573, 574, 575, 576, 577, 578, 579, 580, 581, 582, 583, 584, 585, 586, 587, 588, 589, 590, 591, 592, 593, 594, 595, 596] (by decide +kernel) (by decide +kernel)
set_option maxRecDepth 20000 in
theorem gL_law_X4_next : GoodIn wsL_law (wsV RL 135 RX4 yX4_next wsX4_next) := goodIn_app (goodIn_of _ (by decide +kernel)) ggL_law_X4_next
set_option maxRecDepth 20000 in
theorem ggL_law_X3_nextByScan : GoodIn wsL_law wsX3_nextByScan := goodIn_r _ [450, 22, 381, 382, 383, 2, 384, 249, 333, 334, 335, 248, 336, 337, 283, 385, 386, 387, 388, 332, 257, 233, 389, 390, 391, 392, 393, 394, 395, 396, 25, 397, 398, 399, 400, 401, 424, 425, 426, 427, 428, 429, 430, 431, 304, 245, 432, 433, 434, 435, 284, 285, 436, 437, 438, 562, 563, 564, 565, 566, 567, 568, 569, 570, 604, 605, 606, 607, 608, 609, 610, 611, 612, 613, 601, 602, 603] (by decide +kernel) (by decide +kernel)
set_option maxRecDepth 20000 in
theorem gL_law_X3_nextByScan : GoodIn wsL_law (wsV RL 136 RX3 yX3_nextByScan wsX3_nextByScan) := goodIn_app (goodIn_of _ (by decide +kernel)) ggL_law_X3_nextByScan
set_option maxRecDepth 20000 in
theorem ggL_law_X4_nextByScan : GoodIn wsL_law wsX4_nextByScan := goodIn_r _ [454, 99, 443, 444, 445, 5, 446, 291, 52, 292, 53, 406, 407, 408, 409, 45, 51, 346, 347, 348, 349, 57, 58, 410, 411, 412, 413, 414, 415, 48, 571, 572, 573, 574, 575, 576, 577, 578, 579, 580, 581, 582, 583, 584, 585, 586, 587, 588, 589, 590, 591, 592, 593, 594, 595, 596] (by decide +kernel) (by decide +kernel)
set_option maxRecDepth 20000 in
theorem gL_law_X4_nextByScan : GoodIn wsL_law (wsV RL 139 RX4 yX4_nextByScan wsX4_nextByScan) := goodIn_app (goodIn_of _ (by decide +kernel)) ggL_law_X4_nextByScan
set_option maxRecDepth 20000 in
theorem ggL_law_L_visit : GoodIn wsL_law wsL_visit := goodIn_ca (goodIn_ca (goodIn_ca (goodIn_r _ [457, 173, 66, 67, 458, 459, 460, 2, 461, 72, 73, 74, 75, 397, 257, 249, 233, 305, 306, 307, 308, 183, 184, 22, 381, 382, 383, 384, 333, 334, 335, 248, 336, 337, 283, 385, 386, 387, 388, 332, 389, 390, 391, 392, 393, 394, 395, 396, 25, 398, 399, 400, 401, 462, 463, 464, 465, 221, 23, 466, 357, 369, 467, 468, 469, 470, 24, 471, 472, 473, 474, 475, 476, 477, 478, 479, 20, 480, 37, 481, 482, 483, 562, 563, 564, 565, 566, 567, 568, 569, 570, 604, 605, 606, 607, 608, 609, 610, 611, 612, 613, 601, 602, 603] (by decide +kernel) (by decide +kernel)) (goodIn_sub (fun _ h => List.mem_append_left _ (List.mem_append_left _ (List.mem_append_right _ h))) (by decide +kernel))) (goodIn_sub (fun _ h => List.mem_append_left _ (List.mem_append_right _ h)) (by decide +kernel))) (goodIn_sub (fun _ h => List.mem_append_right _ h) (by decide +kernel))
set_option maxRecDepth 20000 in
theorem gL_law_L_visit : GoodIn wsL_law (va_wsS RL 140 yL_visit wsL_visit) := goodIn_app (goodIn_of _ (by decide +kernel)) ggL_law_L_visit
set_option maxRecDepth 20000 in
theorem ggL_law_X4_visit : GoodIn wsL_law wsX4_visit := goodIn_r _ [487, 99, 414, 292, 415, 51, 44, 54, 55, 46, 53, 47, 57, 45, 43, 313, 314, 315, 5, 316, 291, 101, 102, 103, 104, 105, 106, 107, 406, 407, 408, 409, 346, 347, 348, 349, 58, 410, 411, 412, 413, 48, 571, 572, 573, 574, 575, 576, 577, 578, 579, 580, 581, 582, 583, 584, 585, 586, 587, 588, 589, 590, 591, 592, 593, 594, 595, 596] (by decide +kernel) (by decide +kernel)
set_option maxRecDepth 20000 in
theorem gL_law_X4_visit : GoodIn wsL_law (wsV RL 142 RX4 yX4_visit wsX4_visit) := goodIn_app (goodIn_of _ (by decide +kernel)) ggL_law_X4_visit
set_option maxRecDepth 20000 in
theorem ggL_law_L_pass : GoodIn wsL_law wsL_pass := goodIn_ca (goodIn_ca (goodIn_r _ [490, 66, 67, 491, 492, 493, 2, 494, 72, 73, 74, 75, 249, 495, 397, 398, 399, 400, 401, 562, 563, 564, 565, 566, 567, 568, 569, 570] (by decide +kernel) (by decide +kernel)) (goodIn_sub (fun _ h => List.mem_append_left _ (List.mem_append_left _ (List.mem_append_right _ h))) (by decide +kernel))) (goodIn_sub (fun _ h => List.mem_append_left _ (List.mem_append_right _ h)) (by decide +kernel))
set_option maxRecDepth 20000 in
theorem gL_law_L_pass : GoodIn wsL_law (va_wsS RL 143 yL_pass wsL_pass) := goodIn_app (goodIn_of _ (by decide +kernel)) ggL_law_L_pass
set_option maxRecDepth 20000 in
theorem ggL_law_X4_pass : GoodIn wsL_law wsX4_pass := goodIn_r _ [499, 99, 292, 500, 101, 102, 5, 103, 104, 105, 106, 107, 571, 572, 573, 574, 575, 576, 577, 578, 579, 580, 581, 582, 583, 584, 585, 586, 587, 588, 589, 590, 591, 592, 593, 594, 595, 596] (by decide +kernel) (by decide +kernel)
set_option maxRecDepth 20000 in
theorem gL_law_X4_pass : GoodIn wsL_law (wsV RL 145 RX4 yX4_pass wsX4_pass) := goodIn_app (goodIn_of _ (by decide +kernel)) ggL_law_X4_pass
set_option maxRecDepth 20000 in
theorem ggL_law_X3_now : GoodIn wsL_law wsX3_now := goodIn_r _ [504, 249, 562, 563, 564, 565, 566, 567, 568, 569, 570] (by decide +kernel) (by decide +kernel)
set_option maxRecDepth 20000 in
theorem gL_law_X3_now : GoodIn wsL_law (wsV RL 146 RX3 yX3_now wsX3_now) := goodIn_app (goodIn_of _ (by decide +kernel)) ggL_law_X3_now
set_option maxRecDepth 20000 in
theorem ggL_law_X4_now : GoodIn wsL_law wsX4_now := goodIn_r _ [508, 99, 292, 571, 572, 573, 574, 575, 576, 577, 578, 579, 580, 581, 582, 583, 584, 585, 586, 587, 588, 589, 590, 591, 592, 593, 594, 595, 596] (by decide +kernel) (by decide +kernel)
set_option maxRecDepth 20000 in
theorem gL_law_X4_now : GoodIn wsL_law (wsV RL 149 RX4 yX4_now wsX4_now) := goodIn_app (goodIn_of _ (by decide +kernel)) ggL_law_X4_now
set_option maxRecDepth 20000 in
theorem ggL_law_X3_budgetLeft : GoodIn wsL_law wsX3_budgetLeft := goodIn_r _ [396, 25, 397, 389, 390, 391, 392, 562, 563, 564, 565, 566, 567, 568, 569, 570] (by decide +kernel) (by decide +kernel)
set_option maxRecDepth 20000 in
theorem gL_law_X3_budgetLeft : GoodIn wsL_law (wsV RL 150 RX3 yX3_budgetLeft wsX3_budgetLeft) := goodIn_app (goodIn_of _ (by decide +kernel)) ggL_law_X3_budgetLeft
set_option maxRecDepth 20000 in
theorem ggL_law_X4_budgetLeft : GoodIn wsL_law wsX4_budgetLeft := goodIn_r _ [513, 99, 410, 411, 412, 5, 413, 414, 292, 415, 48, 571, 572, 573, 574, 575, 576, 577, 578, 579, 580, 581, 582, 583, 584, 585, 586, 587, 588, 589, 590, 591, 592, 593, 594, 595, 596] (by decide +kernel) (by decide +kernel)
set_option maxRecDepth 20000 in
theorem gL_law_X4_budgetLeft : GoodIn wsL_law (wsV RL 153 RX4 yX4_budgetLeft wsX4_budgetLeft) := goodIn_app (goodIn_of _ (by decide +kernel)) ggL_law_X4_budgetLeft
set_option maxRecDepth 20000 in
theorem ggL_law_X3_waiting : GoodIn wsL_law wsX3_waiting := goodIn_r _ [517, 22, 249, 471, 472, 391, 473, 333, 334, 335, 248, 336, 337, 283, 385, 386, 387, 2, 388, 332, 257, 233, 389, 390, 392, 393, 394, 395, 396, 25, 397, 398, 399, 400, 401, 562, 563, 564, 565, 566, 567, 568, 569, 570, 604, 605, 606, 607, 608, 609, 610, 611, 612, 613, 601, 602, 603] (by decide +kernel) (by decide +kernel)
set_option maxRecDepth 20000 in
theorem gL_law_X3_waiting : GoodIn wsL_law (wsV RL 154 RX3 yX3_waiting wsX3_waiting) := goodIn_app (goodIn_of _ (by decide +kernel)) ggL_law_X3_waiting
set_option maxRecDepth 20000 in
theorem ggL_law_X4_waiting : GoodIn wsL_law wsX4_waiting := goodIn_r _ [521, 99, 291, 53, 45, 51, 292, 410, 411, 412, 5, 413, 414, 415, 48, 346, 347, 348, 349, 57, 58, 571, 572, 573, 574, 575, 576, 577, 578, 579, 580, 581, 582, 583, 584, 585, 586, 587, 588, 589, 590, 591, 592, 593, 594, 595, 596] (by decide +kernel) (by decide +kernel)
set_option maxRecDepth 20000 in
theorem gL_law_X4_waiting : GoodIn wsL_law (wsV RL 157 RX4 yX4_waiting wsX4_waiting) := goodIn_app (goodIn_of _ (by decide +kernel)) ggL_law_X4_waiting
set_option maxRecDepth 20000 in
theorem ggL_law_L_share : GoodIn wsL_law wsL_share := goodIn_ca (goodIn_ca (goodIn_r _ [524, 173, 66, 525, 526, 527, 2, 528, 72, 73, 529, 305, 306, 307, 308, 183, 184, 22, 530, 531, 532, 533, 534, 535, 536, 537, 333, 334, 335, 248, 336, 337, 283, 538, 539, 540, 541, 542, 543, 544, 545, 284, 546, 547, 548, 549, 550, 551, 552, 604, 605, 606, 607, 608, 609, 610, 611, 612, 613, 562, 563, 564, 565, 566, 567, 568, 569, 570] (by decide +kernel) (by decide +kernel)) (goodIn_sub (fun _ h => List.mem_append_left _ (List.mem_append_left _ (List.mem_append_right _ h))) (by decide +kernel))) (goodIn_sub (fun _ h => List.mem_append_right _ h) (by decide +kernel))
set_option maxRecDepth 20000 in
theorem gL_law_L_share : GoodIn wsL_law (va_wsS RL 158 yL_share wsL_share) := goodIn_app (goodIn_of _ (by decide +kernel)) ggL_law_L_share
set_option maxRecDepth 20000 in
theorem ggL_law_X4_share : GoodIn wsL_law wsX4_share := goodIn_r _ [556, 99, 291, 61, 313, 314, 315, 5, 316, 101, 102, 103, 104, 105, 106, 107, 346, 347, 348, 349, 57, 58, 557, 558, 559, 560, 52, 55, 561, 571, 572, 573, 574, 575, 576, 577, 578, 579, 580, 581, 582, 583, 584, 585, 586, 587, 588, 589, 590, 591, 592, 593, 594, 595, 596] (by decide +kernel) (by decide +kernel)
set_option maxRecDepth 20000 in
theorem gL_law_X4_share : GoodIn wsL_law (wsV RL 160 RX4 yX4_share wsX4_share) := goodIn_app (goodIn_of _ (by decide +kernel)) ggL_law_X4_share
