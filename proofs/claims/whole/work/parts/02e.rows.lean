theorem dX3_paceOf_19 : decode cX3_paceOf 19 = .ok (.iconst 1, 1) := by decide +kernel
theorem dX3_paceOf_20 : decode cX3_paceOf 20 = .ok (.iadd, 1) := by decide +kernel
theorem dX3_paceOf_21 : decode cX3_paceOf 21 = .ok (.invokestatic 235, 3) := by decide +kernel
theorem dX3_paceOf_24 : decode cX3_paceOf 24 = .ok (.invokestatic 187, 3) := by decide +kernel
theorem dX3_paceOf_27 : decode cX3_paceOf 27 = .ok (.ireturn, 1) := by decide +kernel
theorem dX3_dividedUp_0 : decode cX3_dividedUp 0 = .ok (.iload_n 1, 1) := by decide +kernel
theorem dX3_dividedUp_1 : decode cX3_dividedUp 1 = .ok (.iconst 1, 1) := by decide +kernel
theorem dX3_dividedUp_2 : decode cX3_dividedUp 2 = .ok (.if_icmp .ge 7, 3) := by decide +kernel
theorem dX3_dividedUp_5 : decode cX3_dividedUp 5 = .ok (.iload_n 0, 1) := by decide +kernel
theorem dX3_dividedUp_6 : decode cX3_dividedUp 6 = .ok (.goto 10, 3) := by decide +kernel
theorem dX3_dividedUp_9 : decode cX3_dividedUp 9 = .ok (.iload_n 0, 1) := by decide +kernel
theorem dX3_dividedUp_10 : decode cX3_dividedUp 10 = .ok (.iload_n 1, 1) := by decide +kernel
theorem dX3_dividedUp_11 : decode cX3_dividedUp 11 = .ok (.iadd, 1) := by decide +kernel
theorem dX3_dividedUp_12 : decode cX3_dividedUp 12 = .ok (.iconst 1, 1) := by decide +kernel
theorem dX3_dividedUp_13 : decode cX3_dividedUp 13 = .ok (.isub, 1) := by decide +kernel
theorem dX3_dividedUp_14 : decode cX3_dividedUp 14 = .ok (.iload_n 1, 1) := by decide +kernel
theorem dX3_dividedUp_15 : decode cX3_dividedUp 15 = .ok (.idiv, 1) := by decide +kernel
theorem dX3_dividedUp_16 : decode cX3_dividedUp 16 = .ok (.ireturn, 1) := by decide +kernel
theorem dX3_forgetSpread_0 : decode cX3_forgetSpread 0 = .ok (.aload_n 0, 1) := by decide +kernel
theorem dX3_forgetSpread_1 : decode cX3_forgetSpread 1 = .ok (.getfield 25, 3) := by decide +kernel
theorem dX3_forgetSpread_4 : decode cX3_forgetSpread 4 = .ok (.astore_n 1, 1) := by decide +kernel
theorem dX3_forgetSpread_5 : decode cX3_forgetSpread 5 = .ok (.aload_n 1, 1) := by decide +kernel
theorem dX3_forgetSpread_6 : decode cX3_forgetSpread 6 = .ok (.arraylength, 1) := by decide +kernel
theorem dX3_forgetSpread_7 : decode cX3_forgetSpread 7 = .ok (.istore_n 2, 1) := by decide +kernel
theorem dX3_forgetSpread_8 : decode cX3_forgetSpread 8 = .ok (.iconst 0, 1) := by decide +kernel
theorem dX3_forgetSpread_9 : decode cX3_forgetSpread 9 = .ok (.istore_n 3, 1) := by decide +kernel
theorem dX3_forgetSpread_10 : decode cX3_forgetSpread 10 = .ok (.iload_n 3, 1) := by decide +kernel
theorem dX3_forgetSpread_11 : decode cX3_forgetSpread 11 = .ok (.iload_n 2, 1) := by decide +kernel
theorem dX3_forgetSpread_12 : decode cX3_forgetSpread 12 = .ok (.if_icmp .ge 25, 3) := by decide +kernel
theorem dX3_forgetSpread_15 : decode cX3_forgetSpread 15 = .ok (.aload_n 1, 1) := by decide +kernel
theorem dX3_forgetSpread_16 : decode cX3_forgetSpread 16 = .ok (.iload_n 3, 1) := by decide +kernel
theorem dX3_forgetSpread_17 : decode cX3_forgetSpread 17 = .ok (.aaload, 1) := by decide +kernel
theorem dX3_forgetSpread_18 : decode cX3_forgetSpread 18 = .ok (.astore 4, 2) := by decide +kernel
theorem dX3_forgetSpread_20 : decode cX3_forgetSpread 20 = .ok (.aload 4, 2) := by decide +kernel
theorem dX3_forgetSpread_22 : decode cX3_forgetSpread 22 = .ok (.ifnull 9, 3) := by decide +kernel
theorem dX3_forgetSpread_25 : decode cX3_forgetSpread 25 = .ok (.aload 4, 2) := by decide +kernel
theorem dX3_forgetSpread_27 : decode cX3_forgetSpread 27 = .ok (.iconst 0, 1) := by decide +kernel
theorem dX3_forgetSpread_28 : decode cX3_forgetSpread 28 = .ok (.putfield 198, 3) := by decide +kernel
theorem dX3_forgetSpread_31 : decode cX3_forgetSpread 31 = .ok (.iinc 3 1, 3) := by decide +kernel
theorem dX3_forgetSpread_34 : decode cX3_forgetSpread 34 = .ok (.goto (-24), 3) := by decide +kernel
theorem dX3_forgetSpread_37 : decode cX3_forgetSpread 37 = .ok (.return_, 1) := by decide +kernel
set_option maxRecDepth 20000 in
theorem ggX3_spreadOneVisit_X2_isKept : GoodIn wsX3_spreadOneVisit wsX2_isKept := goodIn_r _ [7, 8, 9, 35, 36, 37, 38, 39, 40, 41, 42, 43, 44] (by decide +kernel) (by decide +kernel)
set_option maxRecDepth 20000 in
theorem gX3_spreadOneVisit_X2_isKept : GoodIn wsX3_spreadOneVisit (wsV RX3 124 RX2 yX2_isKept wsX2_isKept) := goodIn_app (goodIn_of _ (by decide +kernel)) ggX3_spreadOneVisit_X2_isKept
set_option maxRecDepth 20000 in
theorem ggX3_spreadOneVisit_X2_gainsMoreThan : GoodIn wsX3_spreadOneVisit wsX2_gainsMoreThan := goodIn_r _ [13, 14, 15, 16, 6, 17, 18, 19, 20, 21, 22, 23, 24, 25, 35, 36, 37, 38, 39, 40, 41, 42, 43, 44] (by decide +kernel) (by decide +kernel)
set_option maxRecDepth 20000 in
theorem gX3_spreadOneVisit_X2_gainsMoreThan : GoodIn wsX3_spreadOneVisit (wsV RX3 238 RX2 yX2_gainsMoreThan wsX2_gainsMoreThan) := goodIn_app (goodIn_of _ (by decide +kernel)) ggX3_spreadOneVisit_X2_gainsMoreThan
theorem dX3_spreadOneVisit_0 : decode cX3_spreadOneVisit 0 = .ok (.aconst_null, 1) := by decide +kernel
theorem dX3_spreadOneVisit_1 : decode cX3_spreadOneVisit 1 = .ok (.astore_n 1, 1) := by decide +kernel
theorem dX3_spreadOneVisit_2 : decode cX3_spreadOneVisit 2 = .ok (.aload_n 0, 1) := by decide +kernel
theorem dX3_spreadOneVisit_3 : decode cX3_spreadOneVisit 3 = .ok (.getfield 25, 3) := by decide +kernel
theorem dX3_spreadOneVisit_6 : decode cX3_spreadOneVisit 6 = .ok (.astore_n 2, 1) := by decide +kernel
theorem dX3_spreadOneVisit_7 : decode cX3_spreadOneVisit 7 = .ok (.aload_n 2, 1) := by decide +kernel
theorem dX3_spreadOneVisit_8 : decode cX3_spreadOneVisit 8 = .ok (.arraylength, 1) := by decide +kernel
theorem dX3_spreadOneVisit_9 : decode cX3_spreadOneVisit 9 = .ok (.istore_n 3, 1) := by decide +kernel
theorem dX3_spreadOneVisit_10 : decode cX3_spreadOneVisit 10 = .ok (.iconst 0, 1) := by decide +kernel
theorem dX3_spreadOneVisit_11 : decode cX3_spreadOneVisit 11 = .ok (.istore 4, 2) := by decide +kernel
theorem dX3_spreadOneVisit_13 : decode cX3_spreadOneVisit 13 = .ok (.iload 4, 2) := by decide +kernel
theorem dX3_spreadOneVisit_15 : decode cX3_spreadOneVisit 15 = .ok (.iload_n 3, 1) := by decide +kernel
theorem dX3_spreadOneVisit_16 : decode cX3_spreadOneVisit 16 = .ok (.if_icmp .ge 44, 3) := by decide +kernel
theorem dX3_spreadOneVisit_19 : decode cX3_spreadOneVisit 19 = .ok (.aload_n 2, 1) := by decide +kernel
theorem dX3_spreadOneVisit_20 : decode cX3_spreadOneVisit 20 = .ok (.iload 4, 2) := by decide +kernel
theorem dX3_spreadOneVisit_22 : decode cX3_spreadOneVisit 22 = .ok (.aaload, 1) := by decide +kernel
theorem dX3_spreadOneVisit_23 : decode cX3_spreadOneVisit 23 = .ok (.astore 5, 2) := by decide +kernel
theorem dX3_spreadOneVisit_25 : decode cX3_spreadOneVisit 25 = .ok (.aload 5, 2) := by decide +kernel
theorem dX3_spreadOneVisit_27 : decode cX3_spreadOneVisit 27 = .ok (.ifnull 27, 3) := by decide +kernel
theorem dX3_spreadOneVisit_30 : decode cX3_spreadOneVisit 30 = .ok (.aload 5, 2) := by decide +kernel
theorem dX3_spreadOneVisit_32 : decode cX3_spreadOneVisit 32 = .ok (.invokevirtual 124, 3) := by decide +kernel
theorem dX3_spreadOneVisit_35 : decode cX3_spreadOneVisit 35 = .ok (.ifCond .eq 19, 3) := by decide +kernel
theorem dX3_spreadOneVisit_38 : decode cX3_spreadOneVisit 38 = .ok (.aload_n 1, 1) := by decide +kernel
theorem dX3_spreadOneVisit_39 : decode cX3_spreadOneVisit 39 = .ok (.ifnull 12, 3) := by decide +kernel
theorem dX3_spreadOneVisit_42 : decode cX3_spreadOneVisit 42 = .ok (.aload 5, 2) := by decide +kernel
theorem dX3_spreadOneVisit_44 : decode cX3_spreadOneVisit 44 = .ok (.aload_n 1, 1) := by decide +kernel
theorem dX3_spreadOneVisit_45 : decode cX3_spreadOneVisit 45 = .ok (.invokevirtual 238, 3) := by decide +kernel
theorem dX3_spreadOneVisit_48 : decode cX3_spreadOneVisit 48 = .ok (.ifCond .eq 6, 3) := by decide +kernel
theorem dX3_spreadOneVisit_51 : decode cX3_spreadOneVisit 51 = .ok (.aload 5, 2) := by decide +kernel
theorem dX3_spreadOneVisit_53 : decode cX3_spreadOneVisit 53 = .ok (.astore_n 1, 1) := by decide +kernel
theorem dX3_spreadOneVisit_54 : decode cX3_spreadOneVisit 54 = .ok (.iinc 4 1, 3) := by decide +kernel
theorem dX3_spreadOneVisit_57 : decode cX3_spreadOneVisit 57 = .ok (.goto (-44), 3) := by decide +kernel
theorem dX3_spreadOneVisit_60 : decode cX3_spreadOneVisit 60 = .ok (.aload_n 1, 1) := by decide +kernel
theorem dX3_spreadOneVisit_61 : decode cX3_spreadOneVisit 61 = .ok (.ifnull 13, 3) := by decide +kernel
theorem dX3_spreadOneVisit_64 : decode cX3_spreadOneVisit 64 = .ok (.aload_n 1, 1) := by decide +kernel
theorem dX3_spreadOneVisit_65 : decode cX3_spreadOneVisit 65 = .ok (.dup, 1) := by decide +kernel
theorem dX3_spreadOneVisit_66 : decode cX3_spreadOneVisit 66 = .ok (.getfield 198, 3) := by decide +kernel
theorem dX3_spreadOneVisit_69 : decode cX3_spreadOneVisit 69 = .ok (.iconst 1, 1) := by decide +kernel
theorem dX3_spreadOneVisit_70 : decode cX3_spreadOneVisit 70 = .ok (.iadd, 1) := by decide +kernel
theorem dX3_spreadOneVisit_71 : decode cX3_spreadOneVisit 71 = .ok (.putfield 198, 3) := by decide +kernel
theorem dX3_spreadOneVisit_74 : decode cX3_spreadOneVisit 74 = .ok (.return_, 1) := by decide +kernel
theorem dX4_init_0 : decode cX4_init 0 = .ok (.aload_n 0, 1) := by decide +kernel
theorem dX4_init_1 : decode cX4_init 1 = .ok (.invokespecial 1, 3) := by decide +kernel
theorem dX4_init_4 : decode cX4_init 4 = .ok (.aload_n 0, 1) := by decide +kernel
theorem dX4_init_5 : decode cX4_init 5 = .ok (.bipush 30, 2) := by decide +kernel
theorem dX4_init_7 : decode cX4_init 7 = .ok (.newarray .int, 2) := by decide +kernel
theorem dX4_init_9 : decode cX4_init 9 = .ok (.putfield 7, 3) := by decide +kernel
theorem dX4_init_12 : decode cX4_init 12 = .ok (.aload_n 0, 1) := by decide +kernel
theorem dX4_init_13 : decode cX4_init 13 = .ok (.bipush 6, 2) := by decide +kernel
theorem dX4_init_15 : decode cX4_init 15 = .ok (.newarray .int, 2) := by decide +kernel
theorem dX4_init_17 : decode cX4_init 17 = .ok (.putfield 13, 3) := by decide +kernel
theorem dX4_init_20 : decode cX4_init 20 = .ok (.aload_n 0, 1) := by decide +kernel
theorem dX4_init_21 : decode cX4_init 21 = .ok (.bipush 6, 2) := by decide +kernel
theorem dX4_init_23 : decode cX4_init 23 = .ok (.newarray .int, 2) := by decide +kernel
theorem dX4_init_25 : decode cX4_init 25 = .ok (.putfield 16, 3) := by decide +kernel
theorem dX4_init_28 : decode cX4_init 28 = .ok (.aload_n 0, 1) := by decide +kernel
theorem dX4_init_29 : decode cX4_init 29 = .ok (.bipush 6, 2) := by decide +kernel
theorem dX4_init_31 : decode cX4_init 31 = .ok (.newarray .int, 2) := by decide +kernel
theorem dX4_init_33 : decode cX4_init 33 = .ok (.putfield 19, 3) := by decide +kernel
theorem dX4_init_36 : decode cX4_init 36 = .ok (.aload_n 0, 1) := by decide +kernel
theorem dX4_init_37 : decode cX4_init 37 = .ok (.bipush 10, 2) := by decide +kernel
theorem dX4_init_39 : decode cX4_init 39 = .ok (.putfield 22, 3) := by decide +kernel
theorem dX4_init_42 : decode cX4_init 42 = .ok (.aload_n 0, 1) := by decide +kernel
theorem dX4_init_43 : decode cX4_init 43 = .ok (.sipush 500, 3) := by decide +kernel
theorem dX4_init_46 : decode cX4_init 46 = .ok (.putfield 26, 3) := by decide +kernel
theorem dX4_init_49 : decode cX4_init 49 = .ok (.aload_n 0, 1) := by decide +kernel
theorem dX4_init_50 : decode cX4_init 50 = .ok (.bipush 20, 2) := by decide +kernel
theorem dX4_init_52 : decode cX4_init 52 = .ok (.putfield 29, 3) := by decide +kernel
theorem dX4_init_55 : decode cX4_init 55 = .ok (.aload_n 0, 1) := by decide +kernel
theorem dX4_init_56 : decode cX4_init 56 = .ok (.sipush 900, 3) := by decide +kernel
theorem dX4_init_59 : decode cX4_init 59 = .ok (.newarray .int, 2) := by decide +kernel
theorem dX4_init_61 : decode cX4_init 61 = .ok (.putfield 32, 3) := by decide +kernel
theorem dX4_init_64 : decode cX4_init 64 = .ok (.aload_n 0, 1) := by decide +kernel
theorem dX4_init_65 : decode cX4_init 65 = .ok (.bipush 30, 2) := by decide +kernel
theorem dX4_init_67 : decode cX4_init 67 = .ok (.newarray .int, 2) := by decide +kernel
theorem dX4_init_69 : decode cX4_init 69 = .ok (.putfield 35, 3) := by decide +kernel
theorem dX4_init_72 : decode cX4_init 72 = .ok (.aload_n 0, 1) := by decide +kernel
theorem dX4_init_73 : decode cX4_init 73 = .ok (.bipush 30, 2) := by decide +kernel
theorem dX4_init_75 : decode cX4_init 75 = .ok (.newarray .int, 2) := by decide +kernel
theorem dX4_init_77 : decode cX4_init 77 = .ok (.putfield 38, 3) := by decide +kernel
theorem dX4_init_80 : decode cX4_init 80 = .ok (.aload_n 0, 1) := by decide +kernel
theorem dX4_init_81 : decode cX4_init 81 = .ok (.bipush 30, 2) := by decide +kernel
theorem dX4_init_83 : decode cX4_init 83 = .ok (.newarray .int, 2) := by decide +kernel
theorem dX4_init_85 : decode cX4_init 85 = .ok (.putfield 41, 3) := by decide +kernel
theorem dX4_init_88 : decode cX4_init 88 = .ok (.aload_n 0, 1) := by decide +kernel
theorem dX4_init_89 : decode cX4_init 89 = .ok (.bipush 30, 2) := by decide +kernel
theorem dX4_init_91 : decode cX4_init 91 = .ok (.newarray .int, 2) := by decide +kernel
theorem dX4_init_93 : decode cX4_init 93 = .ok (.putfield 44, 3) := by decide +kernel
theorem dX4_init_96 : decode cX4_init 96 = .ok (.aload_n 0, 1) := by decide +kernel
theorem dX4_init_97 : decode cX4_init 97 = .ok (.bipush 30, 2) := by decide +kernel
theorem dX4_init_99 : decode cX4_init 99 = .ok (.newarray .int, 2) := by decide +kernel
theorem dX4_init_101 : decode cX4_init 101 = .ok (.putfield 47, 3) := by decide +kernel
theorem dX4_init_104 : decode cX4_init 104 = .ok (.aload_n 0, 1) := by decide +kernel
theorem dX4_init_105 : decode cX4_init 105 = .ok (.bipush 30, 2) := by decide +kernel
theorem dX4_init_107 : decode cX4_init 107 = .ok (.newarray .int, 2) := by decide +kernel
theorem dX4_init_109 : decode cX4_init 109 = .ok (.putfield 50, 3) := by decide +kernel
theorem dX4_init_112 : decode cX4_init 112 = .ok (.aload_n 0, 1) := by decide +kernel
theorem dX4_init_113 : decode cX4_init 113 = .ok (.bipush 30, 2) := by decide +kernel
theorem dX4_init_115 : decode cX4_init 115 = .ok (.newarray .boolean, 2) := by decide +kernel
theorem dX4_init_117 : decode cX4_init 117 = .ok (.putfield 53, 3) := by decide +kernel
theorem dX4_init_120 : decode cX4_init 120 = .ok (.aload_n 0, 1) := by decide +kernel
theorem dX4_init_121 : decode cX4_init 121 = .ok (.bipush 30, 2) := by decide +kernel
theorem dX4_init_123 : decode cX4_init 123 = .ok (.newarray .boolean, 2) := by decide +kernel
theorem dX4_init_125 : decode cX4_init 125 = .ok (.putfield 57, 3) := by decide +kernel
theorem dX4_init_128 : decode cX4_init 128 = .ok (.aload_n 0, 1) := by decide +kernel
theorem dX4_init_129 : decode cX4_init 129 = .ok (.bipush 15, 2) := by decide +kernel
theorem dX4_init_131 : decode cX4_init 131 = .ok (.newarray .int, 2) := by decide +kernel
theorem dX4_init_133 : decode cX4_init 133 = .ok (.putfield 60, 3) := by decide +kernel
theorem dX4_init_136 : decode cX4_init 136 = .ok (.aload_n 0, 1) := by decide +kernel
theorem dX4_init_137 : decode cX4_init 137 = .ok (.bipush 15, 2) := by decide +kernel
theorem dX4_init_139 : decode cX4_init 139 = .ok (.newarray .int, 2) := by decide +kernel
theorem dX4_init_141 : decode cX4_init 141 = .ok (.putfield 63, 3) := by decide +kernel
theorem dX4_init_144 : decode cX4_init 144 = .ok (.aload_n 0, 1) := by decide +kernel
theorem dX4_init_145 : decode cX4_init 145 = .ok (.bipush 30, 2) := by decide +kernel
theorem dX4_init_147 : decode cX4_init 147 = .ok (.newarray .int, 2) := by decide +kernel
theorem dX4_init_149 : decode cX4_init 149 = .ok (.putfield 66, 3) := by decide +kernel
theorem dX4_init_152 : decode cX4_init 152 = .ok (.iconst 0, 1) := by decide +kernel
theorem dX4_init_153 : decode cX4_init 153 = .ok (.istore_n 1, 1) := by decide +kernel
theorem dX4_init_154 : decode cX4_init 154 = .ok (.iload_n 1, 1) := by decide +kernel
theorem dX4_init_155 : decode cX4_init 155 = .ok (.bipush 6, 2) := by decide +kernel
theorem dX4_init_157 : decode cX4_init 157 = .ok (.if_icmp .ge 16, 3) := by decide +kernel
theorem dX4_init_160 : decode cX4_init 160 = .ok (.aload_n 0, 1) := by decide +kernel
theorem dX4_init_161 : decode cX4_init 161 = .ok (.getfield 13, 3) := by decide +kernel
theorem dX4_init_164 : decode cX4_init 164 = .ok (.iload_n 1, 1) := by decide +kernel
theorem dX4_init_165 : decode cX4_init 165 = .ok (.iconst 5, 1) := by decide +kernel
theorem dX4_init_166 : decode cX4_init 166 = .ok (.iastore, 1) := by decide +kernel
theorem dX4_init_167 : decode cX4_init 167 = .ok (.iinc 1 1, 3) := by decide +kernel
theorem dX4_init_170 : decode cX4_init 170 = .ok (.goto (-16), 3) := by decide +kernel
theorem dX4_init_173 : decode cX4_init 173 = .ok (.return_, 1) := by decide +kernel
theorem dX4_thrown_0 : decode cX4_thrown 0 = .ok (.aload_n 0, 1) := by decide +kernel
theorem dX4_thrown_1 : decode cX4_thrown 1 = .ok (.getfield 69, 3) := by decide +kernel
theorem dX4_thrown_4 : decode cX4_thrown 4 = .ok (.ireturn, 1) := by decide +kernel
theorem dX4_fails_0 : decode cX4_fails 0 = .ok (.aload_n 0, 1) := by decide +kernel
theorem dX4_fails_1 : decode cX4_fails 1 = .ok (.iload_n 1, 1) := by decide +kernel
theorem dX4_fails_2 : decode cX4_fails 2 = .ok (.putfield 69, 3) := by decide +kernel
theorem dX4_fails_5 : decode cX4_fails 5 = .ok (.iconst 0, 1) := by decide +kernel
theorem dX4_fails_6 : decode cX4_fails 6 = .ok (.ireturn, 1) := by decide +kernel
theorem dX4_in_0 : decode cX4_in 0 = .ok (.iload_n 0, 1) := by decide +kernel
theorem dX4_in_1 : decode cX4_in 1 = .ok (.iload_n 1, 1) := by decide +kernel
theorem dX4_in_2 : decode cX4_in 2 = .ok (.if_icmp .lt 12, 3) := by decide +kernel
theorem dX4_in_5 : decode cX4_in 5 = .ok (.iload_n 0, 1) := by decide +kernel
theorem dX4_in_6 : decode cX4_in 6 = .ok (.iload_n 2, 1) := by decide +kernel
theorem dX4_in_7 : decode cX4_in 7 = .ok (.if_icmp .gt 7, 3) := by decide +kernel
theorem dX4_in_10 : decode cX4_in 10 = .ok (.iconst 1, 1) := by decide +kernel
theorem dX4_in_11 : decode cX4_in 11 = .ok (.goto 4, 3) := by decide +kernel
theorem dX4_in_14 : decode cX4_in 14 = .ok (.iconst 0, 1) := by decide +kernel
theorem dX4_in_15 : decode cX4_in 15 = .ok (.ireturn, 1) := by decide +kernel
set_option maxRecDepth 20000 in
theorem ggX4_isHost_X4_in : GoodIn wsX4_isHost wsX4_in := goodIn_r _ [4] (by decide +kernel) (by decide +kernel)
set_option maxRecDepth 20000 in
theorem gX4_isHost_X4_in : GoodIn wsX4_isHost (va_wsS RX4 72 yX4_in wsX4_in) := goodIn_app (goodIn_of _ (by decide +kernel)) ggX4_isHost_X4_in
theorem dX4_isHost_0 : decode cX4_isHost 0 = .ok (.iload_n 0, 1) := by decide +kernel
theorem dX4_isHost_1 : decode cX4_isHost 1 = .ok (.iconst 0, 1) := by decide +kernel
theorem dX4_isHost_2 : decode cX4_isHost 2 = .ok (.iconst 5, 1) := by decide +kernel
theorem dX4_isHost_3 : decode cX4_isHost 3 = .ok (.invokestatic 72, 3) := by decide +kernel
theorem dX4_isHost_6 : decode cX4_isHost 6 = .ok (.ireturn, 1) := by decide +kernel
set_option maxRecDepth 20000 in
theorem ggX4_isPage_X4_in : GoodIn wsX4_isPage wsX4_in := goodIn_r _ [5] (by decide +kernel) (by decide +kernel)
set_option maxRecDepth 20000 in
theorem gX4_isPage_X4_in : GoodIn wsX4_isPage (va_wsS RX4 72 yX4_in wsX4_in) := goodIn_app (goodIn_of _ (by decide +kernel)) ggX4_isPage_X4_in
theorem dX4_isPage_0 : decode cX4_isPage 0 = .ok (.iload_n 1, 1) := by decide +kernel
theorem dX4_isPage_1 : decode cX4_isPage 1 = .ok (.iconst 0, 1) := by decide +kernel
theorem dX4_isPage_2 : decode cX4_isPage 2 = .ok (.aload_n 0, 1) := by decide +kernel
theorem dX4_isPage_3 : decode cX4_isPage 3 = .ok (.getfield 76, 3) := by decide +kernel
theorem dX4_isPage_6 : decode cX4_isPage 6 = .ok (.iconst 1, 1) := by decide +kernel
theorem dX4_isPage_7 : decode cX4_isPage 7 = .ok (.isub, 1) := by decide +kernel
theorem dX4_isPage_8 : decode cX4_isPage 8 = .ok (.invokestatic 72, 3) := by decide +kernel
theorem dX4_isPage_11 : decode cX4_isPage 11 = .ok (.ireturn, 1) := by decide +kernel
set_option maxRecDepth 20000 in
theorem ggX4_isAsked_X4_isPage : GoodIn wsX4_isAsked wsX4_isPage := goodIn_r _ [6, 7, 8, 9, 5, 10, 11, 12, 13, 14, 15, 16, 17, 18, 19, 20, 21, 22, 23, 24, 25, 26, 27, 28, 29, 30, 31, 32, 33, 34, 35, 36] (by decide +kernel) (by decide +kernel)
set_option maxRecDepth 20000 in
theorem gX4_isAsked_X4_isPage : GoodIn wsX4_isAsked (wsV RX4 79 RX4 yX4_isPage wsX4_isPage) := goodIn_app (goodIn_of _ (by decide +kernel)) ggX4_isAsked_X4_isPage
theorem dX4_isAsked_0 : decode cX4_isAsked 0 = .ok (.aload_n 0, 1) := by decide +kernel
theorem dX4_isAsked_1 : decode cX4_isAsked 1 = .ok (.aload_n 0, 1) := by decide +kernel
theorem dX4_isAsked_2 : decode cX4_isAsked 2 = .ok (.iload_n 1, 1) := by decide +kernel
theorem dX4_isAsked_3 : decode cX4_isAsked 3 = .ok (.invokevirtual 79, 3) := by decide +kernel
theorem dX4_isAsked_6 : decode cX4_isAsked 6 = .ok (.ifCond .eq 7, 3) := by decide +kernel
theorem dX4_isAsked_9 : decode cX4_isAsked 9 = .ok (.iconst 0, 1) := by decide +kernel
theorem dX4_isAsked_10 : decode cX4_isAsked 10 = .ok (.goto 4, 3) := by decide +kernel
theorem dX4_isAsked_13 : decode cX4_isAsked 13 = .ok (.iconst 1, 1) := by decide +kernel
theorem dX4_isAsked_14 : decode cX4_isAsked 14 = .ok (.putfield 69, 3) := by decide +kernel
theorem dX4_isAsked_17 : decode cX4_isAsked 17 = .ok (.aload_n 0, 1) := by decide +kernel
theorem dX4_isAsked_18 : decode cX4_isAsked 18 = .ok (.getfield 69, 3) := by decide +kernel
theorem dX4_isAsked_21 : decode cX4_isAsked 21 = .ok (.ifCond .ne 7, 3) := by decide +kernel
theorem dX4_isAsked_24 : decode cX4_isAsked 24 = .ok (.iconst 1, 1) := by decide +kernel
theorem dX4_isAsked_25 : decode cX4_isAsked 25 = .ok (.goto 4, 3) := by decide +kernel
theorem dX4_isAsked_28 : decode cX4_isAsked 28 = .ok (.iconst 0, 1) := by decide +kernel
theorem dX4_isAsked_29 : decode cX4_isAsked 29 = .ok (.ireturn, 1) := by decide +kernel
theorem dX4_laySegments_0 : decode cX4_laySegments 0 = .ok (.aload_n 0, 1) := by decide +kernel
theorem dX4_laySegments_1 : decode cX4_laySegments 1 = .ok (.iconst 0, 1) := by decide +kernel
theorem dX4_laySegments_2 : decode cX4_laySegments 2 = .ok (.putfield 83, 3) := by decide +kernel
theorem dX4_laySegments_5 : decode cX4_laySegments 5 = .ok (.iconst 0, 1) := by decide +kernel
theorem dX4_laySegments_6 : decode cX4_laySegments 6 = .ok (.istore_n 1, 1) := by decide +kernel
theorem dX4_laySegments_7 : decode cX4_laySegments 7 = .ok (.iload_n 1, 1) := by decide +kernel
theorem dX4_laySegments_8 : decode cX4_laySegments 8 = .ok (.aload_n 0, 1) := by decide +kernel
theorem dX4_laySegments_9 : decode cX4_laySegments 9 = .ok (.getfield 86, 3) := by decide +kernel
theorem dX4_laySegments_12 : decode cX4_laySegments 12 = .ok (.if_icmp .ge 103, 3) := by decide +kernel
theorem dX4_laySegments_15 : decode cX4_laySegments 15 = .ok (.iload_n 1, 1) := by decide +kernel
theorem dX4_laySegments_16 : decode cX4_laySegments 16 = .ok (.ifCond .eq 16, 3) := by decide +kernel
theorem dX4_laySegments_19 : decode cX4_laySegments 19 = .ok (.aload_n 0, 1) := by decide +kernel
theorem dX4_laySegments_20 : decode cX4_laySegments 20 = .ok (.getfield 7, 3) := by decide +kernel
theorem dX4_laySegments_23 : decode cX4_laySegments 23 = .ok (.iload_n 1, 1) := by decide +kernel
theorem dX4_laySegments_24 : decode cX4_laySegments 24 = .ok (.iconst 1, 1) := by decide +kernel
theorem dX4_laySegments_25 : decode cX4_laySegments 25 = .ok (.isub, 1) := by decide +kernel
theorem dX4_laySegments_26 : decode cX4_laySegments 26 = .ok (.iaload, 1) := by decide +kernel
theorem dX4_laySegments_27 : decode cX4_laySegments 27 = .ok (.bipush 47, 2) := by decide +kernel
theorem dX4_laySegments_29 : decode cX4_laySegments 29 = .ok (.if_icmp .ne 7, 3) := by decide +kernel
theorem dX4_laySegments_32 : decode cX4_laySegments 32 = .ok (.iconst 1, 1) := by decide +kernel
theorem dX4_laySegments_33 : decode cX4_laySegments 33 = .ok (.goto 4, 3) := by decide +kernel
theorem dX4_laySegments_36 : decode cX4_laySegments 36 = .ok (.iconst 0, 1) := by decide +kernel
theorem dX4_laySegments_37 : decode cX4_laySegments 37 = .ok (.istore_n 2, 1) := by decide +kernel
theorem dX4_laySegments_38 : decode cX4_laySegments 38 = .ok (.aload_n 0, 1) := by decide +kernel
theorem dX4_laySegments_39 : decode cX4_laySegments 39 = .ok (.getfield 7, 3) := by decide +kernel
theorem dX4_laySegments_42 : decode cX4_laySegments 42 = .ok (.iload_n 1, 1) := by decide +kernel
theorem dX4_laySegments_43 : decode cX4_laySegments 43 = .ok (.iaload, 1) := by decide +kernel
theorem dX4_laySegments_44 : decode cX4_laySegments 44 = .ok (.bipush 47, 2) := by decide +kernel
theorem dX4_laySegments_46 : decode cX4_laySegments 46 = .ok (.if_icmp .eq 37, 3) := by decide +kernel
theorem dX4_laySegments_49 : decode cX4_laySegments 49 = .ok (.iload_n 2, 1) := by decide +kernel
theorem dX4_laySegments_50 : decode cX4_laySegments 50 = .ok (.ifCond .eq 33, 3) := by decide +kernel
theorem dX4_laySegments_53 : decode cX4_laySegments 53 = .ok (.aload_n 0, 1) := by decide +kernel
theorem dX4_laySegments_54 : decode cX4_laySegments 54 = .ok (.getfield 60, 3) := by decide +kernel
theorem dX4_laySegments_57 : decode cX4_laySegments 57 = .ok (.aload_n 0, 1) := by decide +kernel
theorem dX4_laySegments_58 : decode cX4_laySegments 58 = .ok (.getfield 83, 3) := by decide +kernel
theorem dX4_laySegments_61 : decode cX4_laySegments 61 = .ok (.iload_n 1, 1) := by decide +kernel
theorem dX4_laySegments_62 : decode cX4_laySegments 62 = .ok (.iastore, 1) := by decide +kernel
theorem dX4_laySegments_63 : decode cX4_laySegments 63 = .ok (.aload_n 0, 1) := by decide +kernel
theorem dX4_laySegments_64 : decode cX4_laySegments 64 = .ok (.getfield 63, 3) := by decide +kernel
theorem dX4_laySegments_67 : decode cX4_laySegments 67 = .ok (.aload_n 0, 1) := by decide +kernel
theorem dX4_laySegments_68 : decode cX4_laySegments 68 = .ok (.getfield 83, 3) := by decide +kernel
theorem dX4_laySegments_71 : decode cX4_laySegments 71 = .ok (.iconst 0, 1) := by decide +kernel
theorem dX4_laySegments_72 : decode cX4_laySegments 72 = .ok (.iastore, 1) := by decide +kernel
theorem dX4_laySegments_73 : decode cX4_laySegments 73 = .ok (.aload_n 0, 1) := by decide +kernel
theorem dX4_laySegments_74 : decode cX4_laySegments 74 = .ok (.dup, 1) := by decide +kernel
theorem dX4_laySegments_75 : decode cX4_laySegments 75 = .ok (.getfield 83, 3) := by decide +kernel
theorem dX4_laySegments_78 : decode cX4_laySegments 78 = .ok (.iconst 1, 1) := by decide +kernel
theorem dX4_laySegments_79 : decode cX4_laySegments 79 = .ok (.iadd, 1) := by decide +kernel
theorem dX4_laySegments_80 : decode cX4_laySegments 80 = .ok (.putfield 83, 3) := by decide +kernel
theorem dX4_laySegments_83 : decode cX4_laySegments 83 = .ok (.aload_n 0, 1) := by decide +kernel
theorem dX4_laySegments_84 : decode cX4_laySegments 84 = .ok (.getfield 7, 3) := by decide +kernel
theorem dX4_laySegments_87 : decode cX4_laySegments 87 = .ok (.iload_n 1, 1) := by decide +kernel
theorem dX4_laySegments_88 : decode cX4_laySegments 88 = .ok (.iaload, 1) := by decide +kernel
theorem dX4_laySegments_89 : decode cX4_laySegments 89 = .ok (.bipush 47, 2) := by decide +kernel
theorem dX4_laySegments_91 : decode cX4_laySegments 91 = .ok (.if_icmp .eq 18, 3) := by decide +kernel
theorem dX4_laySegments_94 : decode cX4_laySegments 94 = .ok (.aload_n 0, 1) := by decide +kernel
theorem dX4_laySegments_95 : decode cX4_laySegments 95 = .ok (.getfield 63, 3) := by decide +kernel
theorem dX4_laySegments_98 : decode cX4_laySegments 98 = .ok (.aload_n 0, 1) := by decide +kernel
theorem dX4_laySegments_99 : decode cX4_laySegments 99 = .ok (.getfield 83, 3) := by decide +kernel
theorem dX4_laySegments_102 : decode cX4_laySegments 102 = .ok (.iconst 1, 1) := by decide +kernel
theorem dX4_laySegments_103 : decode cX4_laySegments 103 = .ok (.isub, 1) := by decide +kernel
theorem dX4_laySegments_104 : decode cX4_laySegments 104 = .ok (.dup2, 1) := by decide +kernel
theorem dX4_laySegments_105 : decode cX4_laySegments 105 = .ok (.iaload, 1) := by decide +kernel
theorem dX4_laySegments_106 : decode cX4_laySegments 106 = .ok (.iconst 1, 1) := by decide +kernel
theorem dX4_laySegments_107 : decode cX4_laySegments 107 = .ok (.iadd, 1) := by decide +kernel
theorem dX4_laySegments_108 : decode cX4_laySegments 108 = .ok (.iastore, 1) := by decide +kernel
theorem dX4_laySegments_109 : decode cX4_laySegments 109 = .ok (.iinc 1 1, 3) := by decide +kernel
theorem dX4_laySegments_112 : decode cX4_laySegments 112 = .ok (.goto (-105), 3) := by decide +kernel
theorem dX4_laySegments_115 : decode cX4_laySegments 115 = .ok (.return_, 1) := by decide +kernel
theorem dX4_areSame_0 : decode cX4_areSame 0 = .ok (.aload_n 0, 1) := by decide +kernel
theorem dX4_areSame_1 : decode cX4_areSame 1 = .ok (.getfield 63, 3) := by decide +kernel
theorem dX4_areSame_4 : decode cX4_areSame 4 = .ok (.iload_n 1, 1) := by decide +kernel
theorem dX4_areSame_5 : decode cX4_areSame 5 = .ok (.iaload, 1) := by decide +kernel
theorem dX4_areSame_6 : decode cX4_areSame 6 = .ok (.aload_n 0, 1) := by decide +kernel
theorem dX4_areSame_7 : decode cX4_areSame 7 = .ok (.getfield 63, 3) := by decide +kernel
theorem dX4_areSame_10 : decode cX4_areSame 10 = .ok (.iload_n 2, 1) := by decide +kernel
theorem dX4_areSame_11 : decode cX4_areSame 11 = .ok (.iaload, 1) := by decide +kernel
theorem dX4_areSame_12 : decode cX4_areSame 12 = .ok (.if_icmp .ne 7, 3) := by decide +kernel
theorem dX4_areSame_15 : decode cX4_areSame 15 = .ok (.iconst 1, 1) := by decide +kernel
theorem dX4_areSame_16 : decode cX4_areSame 16 = .ok (.goto 4, 3) := by decide +kernel
theorem dX4_areSame_19 : decode cX4_areSame 19 = .ok (.iconst 0, 1) := by decide +kernel
theorem dX4_areSame_20 : decode cX4_areSame 20 = .ok (.istore_n 3, 1) := by decide +kernel
theorem dX4_areSame_21 : decode cX4_areSame 21 = .ok (.iconst 0, 1) := by decide +kernel
theorem dX4_areSame_22 : decode cX4_areSame 22 = .ok (.istore 4, 2) := by decide +kernel
theorem dX4_areSame_24 : decode cX4_areSame 24 = .ok (.iload 4, 2) := by decide +kernel
theorem dX4_areSame_26 : decode cX4_areSame 26 = .ok (.aload_n 0, 1) := by decide +kernel
theorem dX4_areSame_27 : decode cX4_areSame 27 = .ok (.getfield 63, 3) := by decide +kernel
theorem dX4_areSame_30 : decode cX4_areSame 30 = .ok (.iload_n 1, 1) := by decide +kernel
theorem dX4_areSame_31 : decode cX4_areSame 31 = .ok (.iaload, 1) := by decide +kernel
theorem dX4_areSame_32 : decode cX4_areSame 32 = .ok (.if_icmp .ge 50, 3) := by decide +kernel
theorem dX4_areSame_35 : decode cX4_areSame 35 = .ok (.iload_n 3, 1) := by decide +kernel
theorem dX4_areSame_36 : decode cX4_areSame 36 = .ok (.ifCond .eq 46, 3) := by decide +kernel
theorem dX4_areSame_39 : decode cX4_areSame 39 = .ok (.aload_n 0, 1) := by decide +kernel
theorem dX4_areSame_40 : decode cX4_areSame 40 = .ok (.getfield 7, 3) := by decide +kernel
theorem dX4_areSame_43 : decode cX4_areSame 43 = .ok (.aload_n 0, 1) := by decide +kernel
theorem dX4_areSame_44 : decode cX4_areSame 44 = .ok (.getfield 60, 3) := by decide +kernel
theorem dX4_areSame_47 : decode cX4_areSame 47 = .ok (.iload_n 1, 1) := by decide +kernel
theorem dX4_areSame_48 : decode cX4_areSame 48 = .ok (.iaload, 1) := by decide +kernel
theorem dX4_areSame_49 : decode cX4_areSame 49 = .ok (.iload 4, 2) := by decide +kernel
theorem dX4_areSame_51 : decode cX4_areSame 51 = .ok (.iadd, 1) := by decide +kernel
theorem dX4_areSame_52 : decode cX4_areSame 52 = .ok (.iaload, 1) := by decide +kernel
theorem dX4_areSame_53 : decode cX4_areSame 53 = .ok (.aload_n 0, 1) := by decide +kernel
theorem dX4_areSame_54 : decode cX4_areSame 54 = .ok (.getfield 7, 3) := by decide +kernel
theorem dX4_areSame_57 : decode cX4_areSame 57 = .ok (.aload_n 0, 1) := by decide +kernel
theorem dX4_areSame_58 : decode cX4_areSame 58 = .ok (.getfield 60, 3) := by decide +kernel
theorem dX4_areSame_61 : decode cX4_areSame 61 = .ok (.iload_n 2, 1) := by decide +kernel
theorem dX4_areSame_62 : decode cX4_areSame 62 = .ok (.iaload, 1) := by decide +kernel
theorem dX4_areSame_63 : decode cX4_areSame 63 = .ok (.iload 4, 2) := by decide +kernel
theorem dX4_areSame_65 : decode cX4_areSame 65 = .ok (.iadd, 1) := by decide +kernel
theorem dX4_areSame_66 : decode cX4_areSame 66 = .ok (.iaload, 1) := by decide +kernel
theorem dX4_areSame_67 : decode cX4_areSame 67 = .ok (.if_icmp .ne 7, 3) := by decide +kernel
theorem dX4_areSame_70 : decode cX4_areSame 70 = .ok (.iconst 1, 1) := by decide +kernel
theorem dX4_areSame_71 : decode cX4_areSame 71 = .ok (.goto 4, 3) := by decide +kernel
theorem dX4_areSame_74 : decode cX4_areSame 74 = .ok (.iconst 0, 1) := by decide +kernel
theorem dX4_areSame_75 : decode cX4_areSame 75 = .ok (.istore_n 3, 1) := by decide +kernel
theorem dX4_areSame_76 : decode cX4_areSame 76 = .ok (.iinc 4 1, 3) := by decide +kernel
theorem dX4_areSame_79 : decode cX4_areSame 79 = .ok (.goto (-55), 3) := by decide +kernel
theorem dX4_areSame_82 : decode cX4_areSame 82 = .ok (.iload_n 3, 1) := by decide +kernel
theorem dX4_areSame_83 : decode cX4_areSame 83 = .ok (.ireturn, 1) := by decide +kernel
set_option maxRecDepth 20000 in
theorem ggX4_repeats_X4_laySegments : GoodIn wsX4_repeats wsX4_laySegments := goodIn_r _ [6, 1, 7, 8, 9, 10, 15, 16, 17, 18, 19, 20, 21, 22, 23, 24, 25, 26, 27, 28, 29, 30, 31, 32, 33, 34, 35, 36, 37, 38, 39, 40] (by decide +kernel) (by decide +kernel)
set_option maxRecDepth 20000 in
theorem gX4_repeats_X4_laySegments : GoodIn wsX4_repeats (wsV RX4 89 RX4 yX4_laySegments wsX4_laySegments) := goodIn_app (goodIn_of _ (by decide +kernel)) ggX4_repeats_X4_laySegments
set_option maxRecDepth 20000 in
theorem ggX4_repeats_X4_areSame : GoodIn wsX4_repeats wsX4_areSame := goodIn_r _ [14, 10, 8, 9, 15, 16, 17, 18, 19, 20, 21, 22, 23, 24, 25, 26, 27, 28, 29, 30, 31, 32, 33, 34, 35, 36, 37, 38, 39, 40] (by decide +kernel) (by decide +kernel)
set_option maxRecDepth 20000 in
theorem gX4_repeats_X4_areSame : GoodIn wsX4_repeats (wsV RX4 92 RX4 yX4_areSame wsX4_areSame) := goodIn_app (goodIn_of _ (by decide +kernel)) ggX4_repeats_X4_areSame
theorem dX4_repeats_0 : decode cX4_repeats 0 = .ok (.aload_n 0, 1) := by decide +kernel
theorem dX4_repeats_1 : decode cX4_repeats 1 = .ok (.invokevirtual 89, 3) := by decide +kernel
theorem dX4_repeats_4 : decode cX4_repeats 4 = .ok (.iconst 0, 1) := by decide +kernel
theorem dX4_repeats_5 : decode cX4_repeats 5 = .ok (.istore_n 1, 1) := by decide +kernel
theorem dX4_repeats_6 : decode cX4_repeats 6 = .ok (.iconst 1, 1) := by decide +kernel
theorem dX4_repeats_7 : decode cX4_repeats 7 = .ok (.istore_n 2, 1) := by decide +kernel
theorem dX4_repeats_8 : decode cX4_repeats 8 = .ok (.iload_n 2, 1) := by decide +kernel
theorem dX4_repeats_9 : decode cX4_repeats 9 = .ok (.iconst 4, 1) := by decide +kernel
theorem dX4_repeats_10 : decode cX4_repeats 10 = .ok (.if_icmp .ge 91, 3) := by decide +kernel
theorem dX4_repeats_13 : decode cX4_repeats 13 = .ok (.iconst 0, 1) := by decide +kernel
theorem dX4_repeats_14 : decode cX4_repeats 14 = .ok (.istore_n 3, 1) := by decide +kernel
theorem dX4_repeats_15 : decode cX4_repeats 15 = .ok (.iload_n 3, 1) := by decide +kernel
theorem dX4_repeats_16 : decode cX4_repeats 16 = .ok (.iconst 3, 1) := by decide +kernel
theorem dX4_repeats_17 : decode cX4_repeats 17 = .ok (.iload_n 2, 1) := by decide +kernel
theorem dX4_repeats_18 : decode cX4_repeats 18 = .ok (.imul, 1) := by decide +kernel
theorem dX4_repeats_19 : decode cX4_repeats 19 = .ok (.iadd, 1) := by decide +kernel
theorem dX4_repeats_20 : decode cX4_repeats 20 = .ok (.aload_n 0, 1) := by decide +kernel
theorem dX4_repeats_21 : decode cX4_repeats 21 = .ok (.getfield 83, 3) := by decide +kernel
theorem dX4_repeats_24 : decode cX4_repeats 24 = .ok (.if_icmp .gt 71, 3) := by decide +kernel
theorem dX4_repeats_27 : decode cX4_repeats 27 = .ok (.iconst 1, 1) := by decide +kernel
theorem dX4_repeats_28 : decode cX4_repeats 28 = .ok (.istore 4, 2) := by decide +kernel
theorem dX4_repeats_30 : decode cX4_repeats 30 = .ok (.iload_n 3, 1) := by decide +kernel
theorem dX4_repeats_31 : decode cX4_repeats 31 = .ok (.istore 5, 2) := by decide +kernel
theorem dX4_repeats_33 : decode cX4_repeats 33 = .ok (.iload 5, 2) := by decide +kernel
theorem dX4_repeats_35 : decode cX4_repeats 35 = .ok (.iload_n 3, 1) := by decide +kernel
theorem dX4_repeats_36 : decode cX4_repeats 36 = .ok (.iconst 2, 1) := by decide +kernel
theorem dX4_repeats_37 : decode cX4_repeats 37 = .ok (.iload_n 2, 1) := by decide +kernel
theorem dX4_repeats_38 : decode cX4_repeats 38 = .ok (.imul, 1) := by decide +kernel
theorem dX4_repeats_39 : decode cX4_repeats 39 = .ok (.iadd, 1) := by decide +kernel
theorem dX4_repeats_40 : decode cX4_repeats 40 = .ok (.if_icmp .ge 34, 3) := by decide +kernel
theorem dX4_repeats_43 : decode cX4_repeats 43 = .ok (.iload 4, 2) := by decide +kernel
theorem dX4_repeats_45 : decode cX4_repeats 45 = .ok (.ifCond .eq 20, 3) := by decide +kernel
theorem dX4_repeats_48 : decode cX4_repeats 48 = .ok (.aload_n 0, 1) := by decide +kernel
theorem dX4_repeats_49 : decode cX4_repeats 49 = .ok (.iload 5, 2) := by decide +kernel
theorem dX4_repeats_51 : decode cX4_repeats 51 = .ok (.iload 5, 2) := by decide +kernel
theorem dX4_repeats_53 : decode cX4_repeats 53 = .ok (.iload_n 2, 1) := by decide +kernel
theorem dX4_repeats_54 : decode cX4_repeats 54 = .ok (.iadd, 1) := by decide +kernel
theorem dX4_repeats_55 : decode cX4_repeats 55 = .ok (.invokevirtual 92, 3) := by decide +kernel
theorem dX4_repeats_58 : decode cX4_repeats 58 = .ok (.ifCond .eq 7, 3) := by decide +kernel
theorem dX4_repeats_61 : decode cX4_repeats 61 = .ok (.iconst 1, 1) := by decide +kernel
theorem dX4_repeats_62 : decode cX4_repeats 62 = .ok (.goto 4, 3) := by decide +kernel
theorem dX4_repeats_65 : decode cX4_repeats 65 = .ok (.iconst 0, 1) := by decide +kernel
theorem dX4_repeats_66 : decode cX4_repeats 66 = .ok (.istore 4, 2) := by decide +kernel
theorem dX4_repeats_68 : decode cX4_repeats 68 = .ok (.iinc 5 1, 3) := by decide +kernel
theorem dX4_repeats_71 : decode cX4_repeats 71 = .ok (.goto (-38), 3) := by decide +kernel
theorem dX4_repeats_74 : decode cX4_repeats 74 = .ok (.iload_n 1, 1) := by decide +kernel
theorem dX4_repeats_75 : decode cX4_repeats 75 = .ok (.ifCond .ne 8, 3) := by decide +kernel
theorem dX4_repeats_78 : decode cX4_repeats 78 = .ok (.iload 4, 2) := by decide +kernel
theorem dX4_repeats_80 : decode cX4_repeats 80 = .ok (.ifCond .eq 7, 3) := by decide +kernel
theorem dX4_repeats_83 : decode cX4_repeats 83 = .ok (.iconst 1, 1) := by decide +kernel
theorem dX4_repeats_84 : decode cX4_repeats 84 = .ok (.goto 4, 3) := by decide +kernel
theorem dX4_repeats_87 : decode cX4_repeats 87 = .ok (.iconst 0, 1) := by decide +kernel
theorem dX4_repeats_88 : decode cX4_repeats 88 = .ok (.istore_n 1, 1) := by decide +kernel
theorem dX4_repeats_89 : decode cX4_repeats 89 = .ok (.iinc 3 1, 3) := by decide +kernel
theorem dX4_repeats_92 : decode cX4_repeats 92 = .ok (.goto (-77), 3) := by decide +kernel
theorem dX4_repeats_95 : decode cX4_repeats 95 = .ok (.iinc 2 1, 3) := by decide +kernel
theorem dX4_repeats_98 : decode cX4_repeats 98 = .ok (.goto (-90), 3) := by decide +kernel
theorem dX4_repeats_101 : decode cX4_repeats 101 = .ok (.iload_n 1, 1) := by decide +kernel
theorem dX4_repeats_102 : decode cX4_repeats 102 = .ok (.ireturn, 1) := by decide +kernel
set_option maxRecDepth 20000 in
theorem ggX4_type_X4_in : GoodIn wsX4_type wsX4_in := goodIn_r _ [7] (by decide +kernel) (by decide +kernel)
set_option maxRecDepth 20000 in
theorem gX4_type_X4_in : GoodIn wsX4_type (va_wsS RX4 72 yX4_in wsX4_in) := goodIn_app (goodIn_of _ (by decide +kernel)) ggX4_type_X4_in
set_option maxRecDepth 20000 in
theorem ggX4_type_X4_fails : GoodIn wsX4_type wsX4_fails := goodIn_r _ [11, 1, 12, 13, 14, 15, 16, 17, 18, 19, 20, 21, 22, 23, 24, 25, 26, 27, 28, 29, 30, 31, 32, 33, 34, 35, 36, 37] (by decide +kernel) (by decide +kernel)
set_option maxRecDepth 20000 in
theorem gX4_type_X4_fails : GoodIn wsX4_type (wsV RX4 96 RX4 yX4_fails wsX4_fails) := goodIn_app (goodIn_of _ (by decide +kernel)) ggX4_type_X4_fails
theorem dX4_type_0 : decode cX4_type 0 = .ok (.aload_n 0, 1) := by decide +kernel
theorem dX4_type_1 : decode cX4_type 1 = .ok (.iconst 0, 1) := by decide +kernel
theorem dX4_type_2 : decode cX4_type 2 = .ok (.putfield 69, 3) := by decide +kernel
theorem dX4_type_5 : decode cX4_type 5 = .ok (.iload_n 1, 1) := by decide +kernel
theorem dX4_type_6 : decode cX4_type 6 = .ok (.bipush 47, 2) := by decide +kernel
theorem dX4_type_8 : decode cX4_type 8 = .ok (.if_icmp .eq 20, 3) := by decide +kernel
theorem dX4_type_11 : decode cX4_type 11 = .ok (.iload_n 1, 1) := by decide +kernel
theorem dX4_type_12 : decode cX4_type 12 = .ok (.bipush 97, 2) := by decide +kernel
theorem dX4_type_14 : decode cX4_type 14 = .ok (.bipush 122, 2) := by decide +kernel
theorem dX4_type_16 : decode cX4_type 16 = .ok (.invokestatic 72, 3) := by decide +kernel
theorem dX4_type_19 : decode cX4_type 19 = .ok (.ifCond .ne 9, 3) := by decide +kernel
theorem dX4_type_22 : decode cX4_type 22 = .ok (.aload_n 0, 1) := by decide +kernel
theorem dX4_type_23 : decode cX4_type 23 = .ok (.iconst 1, 1) := by decide +kernel
theorem dX4_type_24 : decode cX4_type 24 = .ok (.invokevirtual 96, 3) := by decide +kernel
theorem dX4_type_27 : decode cX4_type 27 = .ok (.ireturn, 1) := by decide +kernel
theorem dX4_type_28 : decode cX4_type 28 = .ok (.aload_n 0, 1) := by decide +kernel
theorem dX4_type_29 : decode cX4_type 29 = .ok (.getfield 86, 3) := by decide +kernel
theorem dX4_type_32 : decode cX4_type 32 = .ok (.bipush 30, 2) := by decide +kernel
theorem dX4_type_34 : decode cX4_type 34 = .ok (.if_icmp .ne 9, 3) := by decide +kernel
theorem dX4_type_37 : decode cX4_type 37 = .ok (.aload_n 0, 1) := by decide +kernel
theorem dX4_type_38 : decode cX4_type 38 = .ok (.iconst 2, 1) := by decide +kernel
theorem dX4_type_39 : decode cX4_type 39 = .ok (.invokevirtual 96, 3) := by decide +kernel
theorem dX4_type_42 : decode cX4_type 42 = .ok (.ireturn, 1) := by decide +kernel
theorem dX4_type_43 : decode cX4_type 43 = .ok (.aload_n 0, 1) := by decide +kernel
theorem dX4_type_44 : decode cX4_type 44 = .ok (.getfield 7, 3) := by decide +kernel
theorem dX4_type_47 : decode cX4_type 47 = .ok (.aload_n 0, 1) := by decide +kernel
theorem dX4_type_48 : decode cX4_type 48 = .ok (.getfield 86, 3) := by decide +kernel
theorem dX4_type_51 : decode cX4_type 51 = .ok (.iload_n 1, 1) := by decide +kernel
theorem dX4_type_52 : decode cX4_type 52 = .ok (.iastore, 1) := by decide +kernel
theorem dX4_type_53 : decode cX4_type 53 = .ok (.aload_n 0, 1) := by decide +kernel
theorem dX4_type_54 : decode cX4_type 54 = .ok (.dup, 1) := by decide +kernel
theorem dX4_type_55 : decode cX4_type 55 = .ok (.getfield 86, 3) := by decide +kernel
theorem dX4_type_58 : decode cX4_type 58 = .ok (.iconst 1, 1) := by decide +kernel
theorem dX4_type_59 : decode cX4_type 59 = .ok (.iadd, 1) := by decide +kernel
theorem dX4_type_60 : decode cX4_type 60 = .ok (.putfield 86, 3) := by decide +kernel
theorem dX4_type_63 : decode cX4_type 63 = .ok (.aload_n 0, 1) := by decide +kernel
theorem dX4_type_64 : decode cX4_type 64 = .ok (.getfield 86, 3) := by decide +kernel
theorem dX4_type_67 : decode cX4_type 67 = .ok (.ireturn, 1) := by decide +kernel
theorem dX4_clearAddress_0 : decode cX4_clearAddress 0 = .ok (.aload_n 0, 1) := by decide +kernel
theorem dX4_clearAddress_1 : decode cX4_clearAddress 1 = .ok (.iconst 0, 1) := by decide +kernel
theorem dX4_clearAddress_2 : decode cX4_clearAddress 2 = .ok (.putfield 69, 3) := by decide +kernel
theorem dX4_clearAddress_5 : decode cX4_clearAddress 5 = .ok (.aload_n 0, 1) := by decide +kernel
theorem dX4_clearAddress_6 : decode cX4_clearAddress 6 = .ok (.getfield 86, 3) := by decide +kernel
theorem dX4_clearAddress_9 : decode cX4_clearAddress 9 = .ok (.istore_n 1, 1) := by decide +kernel
theorem dX4_clearAddress_10 : decode cX4_clearAddress 10 = .ok (.aload_n 0, 1) := by decide +kernel
theorem dX4_clearAddress_11 : decode cX4_clearAddress 11 = .ok (.iconst 0, 1) := by decide +kernel
theorem dX4_clearAddress_12 : decode cX4_clearAddress 12 = .ok (.putfield 86, 3) := by decide +kernel
theorem dX4_clearAddress_15 : decode cX4_clearAddress 15 = .ok (.iload_n 1, 1) := by decide +kernel
theorem dX4_clearAddress_16 : decode cX4_clearAddress 16 = .ok (.ireturn, 1) := by decide +kernel
set_option maxRecDepth 20000 in
theorem ggX4_segments_X4_laySegments : GoodIn wsX4_segments wsX4_laySegments := goodIn_r _ [7, 2, 8, 9, 10, 11, 12, 13, 14, 15, 16, 17, 18, 19, 20, 21, 22, 23, 24, 25, 26, 27, 28, 29, 30, 31, 32, 33, 34, 35, 36, 37] (by decide +kernel) (by decide +kernel)
set_option maxRecDepth 20000 in
theorem gX4_segments_X4_laySegments : GoodIn wsX4_segments (wsV RX4 89 RX4 yX4_laySegments wsX4_laySegments) := goodIn_app (goodIn_of _ (by decide +kernel)) ggX4_segments_X4_laySegments
theorem dX4_segments_0 : decode cX4_segments 0 = .ok (.aload_n 0, 1) := by decide +kernel
theorem dX4_segments_1 : decode cX4_segments 1 = .ok (.iconst 0, 1) := by decide +kernel
theorem dX4_segments_2 : decode cX4_segments 2 = .ok (.putfield 69, 3) := by decide +kernel
theorem dX4_segments_5 : decode cX4_segments 5 = .ok (.aload_n 0, 1) := by decide +kernel
theorem dX4_segments_6 : decode cX4_segments 6 = .ok (.invokevirtual 89, 3) := by decide +kernel
theorem dX4_segments_9 : decode cX4_segments 9 = .ok (.aload_n 0, 1) := by decide +kernel
theorem dX4_segments_10 : decode cX4_segments 10 = .ok (.getfield 83, 3) := by decide +kernel
theorem dX4_segments_13 : decode cX4_segments 13 = .ok (.ireturn, 1) := by decide +kernel
set_option maxRecDepth 20000 in
theorem ggX4_isTrap_X4_repeats : GoodIn wsX4_isTrap wsX4_repeats := goodIn_r _ [6, 7, 8, 9, 10, 5, 11, 12, 13, 14, 15, 16, 17, 18, 19, 20, 21, 22, 23, 24, 25, 26, 27, 28, 29, 30, 31, 32, 33, 34, 35, 36, 37, 38, 39, 40, 41, 42, 43, 44, 45] (by decide +kernel) (by decide +kernel)
set_option maxRecDepth 20000 in
theorem gX4_isTrap_X4_repeats : GoodIn wsX4_isTrap (wsV RX4 100 RX4 yX4_repeats wsX4_repeats) := goodIn_app (goodIn_of _ (by decide +kernel)) ggX4_isTrap_X4_repeats
theorem dX4_isTrap_0 : decode cX4_isTrap 0 = .ok (.aload_n 0, 1) := by decide +kernel
theorem dX4_isTrap_1 : decode cX4_isTrap 1 = .ok (.iconst 0, 1) := by decide +kernel
theorem dX4_isTrap_2 : decode cX4_isTrap 2 = .ok (.putfield 69, 3) := by decide +kernel
theorem dX4_isTrap_5 : decode cX4_isTrap 5 = .ok (.aload_n 0, 1) := by decide +kernel
theorem dX4_isTrap_6 : decode cX4_isTrap 6 = .ok (.invokevirtual 100, 3) := by decide +kernel
theorem dX4_isTrap_9 : decode cX4_isTrap 9 = .ok (.ireturn, 1) := by decide +kernel
set_option maxRecDepth 20000 in
theorem ggX4_setRest_X4_isHost : GoodIn wsX4_setRest wsX4_isHost := goodIn_r _ [6, 7, 8, 5, 9] (by decide +kernel) (by decide +kernel)
set_option maxRecDepth 20000 in
theorem gX4_setRest_X4_isHost : GoodIn wsX4_setRest (va_wsS RX4 104 yX4_isHost wsX4_isHost) := goodIn_app (goodIn_of _ (by decide +kernel)) ggX4_setRest_X4_isHost
set_option maxRecDepth 20000 in
theorem ggX4_setRest_X4_fails : GoodIn wsX4_setRest wsX4_fails := goodIn_r _ [13, 1, 14, 15, 16, 17, 18, 19, 20, 21, 22, 23, 24, 25, 26, 27, 28, 29, 30, 31, 32, 33, 34, 35, 36, 37, 38, 39] (by decide +kernel) (by decide +kernel)
set_option maxRecDepth 20000 in
theorem gX4_setRest_X4_fails : GoodIn wsX4_setRest (wsV RX4 96 RX4 yX4_fails wsX4_fails) := goodIn_app (goodIn_of _ (by decide +kernel)) ggX4_setRest_X4_fails
set_option maxRecDepth 20000 in
theorem ggX4_setRest_X4_in : GoodIn wsX4_setRest wsX4_in := goodIn_r _ [9] (by decide +kernel) (by decide +kernel)
set_option maxRecDepth 20000 in
theorem gX4_setRest_X4_in : GoodIn wsX4_setRest (va_wsS RX4 72 yX4_in wsX4_in) := goodIn_app (goodIn_of _ (by decide +kernel)) ggX4_setRest_X4_in
theorem dX4_setRest_0 : decode cX4_setRest 0 = .ok (.aload_n 0, 1) := by decide +kernel
theorem dX4_setRest_1 : decode cX4_setRest 1 = .ok (.iconst 0, 1) := by decide +kernel
theorem dX4_setRest_2 : decode cX4_setRest 2 = .ok (.putfield 69, 3) := by decide +kernel
theorem dX4_setRest_5 : decode cX4_setRest 5 = .ok (.iload_n 1, 1) := by decide +kernel
theorem dX4_setRest_6 : decode cX4_setRest 6 = .ok (.invokestatic 104, 3) := by decide +kernel
theorem dX4_setRest_9 : decode cX4_setRest 9 = .ok (.ifCond .ne 9, 3) := by decide +kernel
theorem dX4_setRest_12 : decode cX4_setRest 12 = .ok (.aload_n 0, 1) := by decide +kernel
theorem dX4_setRest_13 : decode cX4_setRest 13 = .ok (.iconst 1, 1) := by decide +kernel
theorem dX4_setRest_14 : decode cX4_setRest 14 = .ok (.invokevirtual 96, 3) := by decide +kernel
theorem dX4_setRest_17 : decode cX4_setRest 17 = .ok (.ireturn, 1) := by decide +kernel
theorem dX4_setRest_18 : decode cX4_setRest 18 = .ok (.iload_n 2, 1) := by decide +kernel
theorem dX4_setRest_19 : decode cX4_setRest 19 = .ok (.iconst 1, 1) := by decide +kernel
theorem dX4_setRest_20 : decode cX4_setRest 20 = .ok (.bipush 100, 2) := by decide +kernel
theorem dX4_setRest_22 : decode cX4_setRest 22 = .ok (.invokestatic 72, 3) := by decide +kernel
theorem dX4_setRest_25 : decode cX4_setRest 25 = .ok (.ifCond .ne 9, 3) := by decide +kernel
theorem dX4_setRest_28 : decode cX4_setRest 28 = .ok (.aload_n 0, 1) := by decide +kernel
theorem dX4_setRest_29 : decode cX4_setRest 29 = .ok (.iconst 2, 1) := by decide +kernel
theorem dX4_setRest_30 : decode cX4_setRest 30 = .ok (.invokevirtual 96, 3) := by decide +kernel
theorem dX4_setRest_33 : decode cX4_setRest 33 = .ok (.ireturn, 1) := by decide +kernel
theorem dX4_setRest_34 : decode cX4_setRest 34 = .ok (.aload_n 0, 1) := by decide +kernel
theorem dX4_setRest_35 : decode cX4_setRest 35 = .ok (.getfield 13, 3) := by decide +kernel
theorem dX4_setRest_38 : decode cX4_setRest 38 = .ok (.iload_n 1, 1) := by decide +kernel
theorem dX4_setRest_39 : decode cX4_setRest 39 = .ok (.iaload, 1) := by decide +kernel
theorem dX4_setRest_40 : decode cX4_setRest 40 = .ok (.istore_n 3, 1) := by decide +kernel
theorem dX4_setRest_41 : decode cX4_setRest 41 = .ok (.aload_n 0, 1) := by decide +kernel
theorem dX4_setRest_42 : decode cX4_setRest 42 = .ok (.getfield 13, 3) := by decide +kernel
theorem dX4_setRest_45 : decode cX4_setRest 45 = .ok (.iload_n 1, 1) := by decide +kernel
theorem dX4_setRest_46 : decode cX4_setRest 46 = .ok (.iload_n 2, 1) := by decide +kernel
theorem dX4_setRest_47 : decode cX4_setRest 47 = .ok (.iastore, 1) := by decide +kernel
theorem dX4_setRest_48 : decode cX4_setRest 48 = .ok (.iload_n 3, 1) := by decide +kernel
theorem dX4_setRest_49 : decode cX4_setRest 49 = .ok (.ireturn, 1) := by decide +kernel
set_option maxRecDepth 20000 in
theorem ggX4_setPaces_X4_in : GoodIn wsX4_setPaces wsX4_in := goodIn_r _ [7] (by decide +kernel) (by decide +kernel)
set_option maxRecDepth 20000 in
theorem gX4_setPaces_X4_in : GoodIn wsX4_setPaces (va_wsS RX4 72 yX4_in wsX4_in) := goodIn_app (goodIn_of _ (by decide +kernel)) ggX4_setPaces_X4_in
theorem dX4_setPaces_0 : decode cX4_setPaces 0 = .ok (.aload_n 0, 1) := by decide +kernel
theorem dX4_setPaces_1 : decode cX4_setPaces 1 = .ok (.iload_n 1, 1) := by decide +kernel
theorem dX4_setPaces_2 : decode cX4_setPaces 2 = .ok (.iconst 1, 1) := by decide +kernel
theorem dX4_setPaces_3 : decode cX4_setPaces 3 = .ok (.sipush 1000, 3) := by decide +kernel
theorem dX4_setPaces_6 : decode cX4_setPaces 6 = .ok (.invokestatic 72, 3) := by decide +kernel
theorem dX4_setPaces_9 : decode cX4_setPaces 9 = .ok (.ifCond .eq 18, 3) := by decide +kernel
theorem dX4_setPaces_12 : decode cX4_setPaces 12 = .ok (.iload_n 2, 1) := by decide +kernel
theorem dX4_setPaces_13 : decode cX4_setPaces 13 = .ok (.iload_n 1, 1) := by decide +kernel
theorem dX4_setPaces_14 : decode cX4_setPaces 14 = .ok (.sipush 5000, 3) := by decide +kernel
theorem dX4_setPaces_17 : decode cX4_setPaces 17 = .ok (.invokestatic 72, 3) := by decide +kernel
theorem dX4_setPaces_20 : decode cX4_setPaces 20 = .ok (.ifCond .eq 7, 3) := by decide +kernel
theorem dX4_setPaces_23 : decode cX4_setPaces 23 = .ok (.iconst 0, 1) := by decide +kernel
theorem dX4_setPaces_24 : decode cX4_setPaces 24 = .ok (.goto 4, 3) := by decide +kernel
theorem dX4_setPaces_27 : decode cX4_setPaces 27 = .ok (.iconst 1, 1) := by decide +kernel
theorem dX4_setPaces_28 : decode cX4_setPaces 28 = .ok (.putfield 69, 3) := by decide +kernel
theorem dX4_setPaces_31 : decode cX4_setPaces 31 = .ok (.aload_n 0, 1) := by decide +kernel
theorem dX4_setPaces_32 : decode cX4_setPaces 32 = .ok (.getfield 69, 3) := by decide +kernel
theorem dX4_setPaces_35 : decode cX4_setPaces 35 = .ok (.ifCond .ne 13, 3) := by decide +kernel
theorem dX4_setPaces_38 : decode cX4_setPaces 38 = .ok (.aload_n 0, 1) := by decide +kernel
theorem dX4_setPaces_39 : decode cX4_setPaces 39 = .ok (.iload_n 1, 1) := by decide +kernel
theorem dX4_setPaces_40 : decode cX4_setPaces 40 = .ok (.putfield 22, 3) := by decide +kernel
theorem dX4_setPaces_43 : decode cX4_setPaces 43 = .ok (.aload_n 0, 1) := by decide +kernel
theorem dX4_setPaces_44 : decode cX4_setPaces 44 = .ok (.iload_n 2, 1) := by decide +kernel
theorem dX4_setPaces_45 : decode cX4_setPaces 45 = .ok (.putfield 26, 3) := by decide +kernel
theorem dX4_setPaces_48 : decode cX4_setPaces 48 = .ok (.return_, 1) := by decide +kernel
set_option maxRecDepth 20000 in
theorem ggX4_setBudget_X4_in : GoodIn wsX4_setBudget wsX4_in := goodIn_r _ [6] (by decide +kernel) (by decide +kernel)
set_option maxRecDepth 20000 in
theorem gX4_setBudget_X4_in : GoodIn wsX4_setBudget (va_wsS RX4 72 yX4_in wsX4_in) := goodIn_app (goodIn_of _ (by decide +kernel)) ggX4_setBudget_X4_in
set_option maxRecDepth 20000 in
theorem ggX4_setBudget_X4_fails : GoodIn wsX4_setBudget wsX4_fails := goodIn_r _ [10, 1, 11, 12, 13, 14, 15, 16, 17, 18, 19, 20, 21, 22, 23, 24, 25, 26, 27, 28, 29, 30, 31, 32, 33, 34, 35, 36] (by decide +kernel) (by decide +kernel)
set_option maxRecDepth 20000 in
theorem gX4_setBudget_X4_fails : GoodIn wsX4_setBudget (wsV RX4 96 RX4 yX4_fails wsX4_fails) := goodIn_app (goodIn_of _ (by decide +kernel)) ggX4_setBudget_X4_fails
theorem dX4_setBudget_0 : decode cX4_setBudget 0 = .ok (.aload_n 0, 1) := by decide +kernel
theorem dX4_setBudget_1 : decode cX4_setBudget 1 = .ok (.iconst 0, 1) := by decide +kernel
theorem dX4_setBudget_2 : decode cX4_setBudget 2 = .ok (.putfield 69, 3) := by decide +kernel
theorem dX4_setBudget_5 : decode cX4_setBudget 5 = .ok (.iload_n 1, 1) := by decide +kernel
theorem dX4_setBudget_6 : decode cX4_setBudget 6 = .ok (.iconst 1, 1) := by decide +kernel
theorem dX4_setBudget_7 : decode cX4_setBudget 7 = .ok (.bipush 100, 2) := by decide +kernel
theorem dX4_setBudget_9 : decode cX4_setBudget 9 = .ok (.invokestatic 72, 3) := by decide +kernel
theorem dX4_setBudget_12 : decode cX4_setBudget 12 = .ok (.ifCond .ne 9, 3) := by decide +kernel
theorem dX4_setBudget_15 : decode cX4_setBudget 15 = .ok (.aload_n 0, 1) := by decide +kernel
theorem dX4_setBudget_16 : decode cX4_setBudget 16 = .ok (.iconst 1, 1) := by decide +kernel
theorem dX4_setBudget_17 : decode cX4_setBudget 17 = .ok (.invokevirtual 96, 3) := by decide +kernel
theorem dX4_setBudget_20 : decode cX4_setBudget 20 = .ok (.ireturn, 1) := by decide +kernel
theorem dX4_setBudget_21 : decode cX4_setBudget 21 = .ok (.aload_n 0, 1) := by decide +kernel
theorem dX4_setBudget_22 : decode cX4_setBudget 22 = .ok (.getfield 29, 3) := by decide +kernel
theorem dX4_setBudget_25 : decode cX4_setBudget 25 = .ok (.istore_n 2, 1) := by decide +kernel
theorem dX4_setBudget_26 : decode cX4_setBudget 26 = .ok (.aload_n 0, 1) := by decide +kernel
theorem dX4_setBudget_27 : decode cX4_setBudget 27 = .ok (.iload_n 1, 1) := by decide +kernel
theorem dX4_setBudget_28 : decode cX4_setBudget 28 = .ok (.putfield 29, 3) := by decide +kernel
theorem dX4_setBudget_31 : decode cX4_setBudget 31 = .ok (.iload_n 2, 1) := by decide +kernel
theorem dX4_setBudget_32 : decode cX4_setBudget 32 = .ok (.ireturn, 1) := by decide +kernel
set_option maxRecDepth 20000 in
theorem ggX4_failures_X4_isHost : GoodIn wsX4_failures wsX4_isHost := goodIn_r _ [6, 7, 8, 5, 9] (by decide +kernel) (by decide +kernel)
set_option maxRecDepth 20000 in
theorem gX4_failures_X4_isHost : GoodIn wsX4_failures (va_wsS RX4 104 yX4_isHost wsX4_isHost) := goodIn_app (goodIn_of _ (by decide +kernel)) ggX4_failures_X4_isHost
set_option maxRecDepth 20000 in
theorem ggX4_failures_X4_fails : GoodIn wsX4_failures wsX4_fails := goodIn_r _ [13, 1, 14, 15, 16, 17, 18, 19, 20, 21, 22, 23, 24, 25, 26, 27, 28, 29, 30, 31, 32, 33, 34, 35, 36, 37, 38, 39] (by decide +kernel) (by decide +kernel)
set_option maxRecDepth 20000 in
theorem gX4_failures_X4_fails : GoodIn wsX4_failures (wsV RX4 96 RX4 yX4_fails wsX4_fails) := goodIn_app (goodIn_of _ (by decide +kernel)) ggX4_failures_X4_fails
theorem dX4_failures_0 : decode cX4_failures 0 = .ok (.aload_n 0, 1) := by decide +kernel
theorem dX4_failures_1 : decode cX4_failures 1 = .ok (.iconst 0, 1) := by decide +kernel
theorem dX4_failures_2 : decode cX4_failures 2 = .ok (.putfield 69, 3) := by decide +kernel
theorem dX4_failures_5 : decode cX4_failures 5 = .ok (.iload_n 1, 1) := by decide +kernel
theorem dX4_failures_6 : decode cX4_failures 6 = .ok (.invokestatic 104, 3) := by decide +kernel
theorem dX4_failures_9 : decode cX4_failures 9 = .ok (.ifCond .eq 12, 3) := by decide +kernel
theorem dX4_failures_12 : decode cX4_failures 12 = .ok (.aload_n 0, 1) := by decide +kernel
theorem dX4_failures_13 : decode cX4_failures 13 = .ok (.getfield 16, 3) := by decide +kernel
theorem dX4_failures_16 : decode cX4_failures 16 = .ok (.iload_n 1, 1) := by decide +kernel
theorem dX4_failures_17 : decode cX4_failures 17 = .ok (.iaload, 1) := by decide +kernel
theorem dX4_failures_18 : decode cX4_failures 18 = .ok (.goto 8, 3) := by decide +kernel
theorem dX4_failures_21 : decode cX4_failures 21 = .ok (.aload_n 0, 1) := by decide +kernel
theorem dX4_failures_22 : decode cX4_failures 22 = .ok (.iconst 1, 1) := by decide +kernel
theorem dX4_failures_23 : decode cX4_failures 23 = .ok (.invokevirtual 96, 3) := by decide +kernel
theorem dX4_failures_26 : decode cX4_failures 26 = .ok (.ireturn, 1) := by decide +kernel
set_option maxRecDepth 20000 in
theorem ggX4_openFrom_X4_isHost : GoodIn wsX4_openFrom wsX4_isHost := goodIn_r _ [6, 7, 8, 5, 9] (by decide +kernel) (by decide +kernel)
set_option maxRecDepth 20000 in
theorem gX4_openFrom_X4_isHost : GoodIn wsX4_openFrom (va_wsS RX4 104 yX4_isHost wsX4_isHost) := goodIn_app (goodIn_of _ (by decide +kernel)) ggX4_openFrom_X4_isHost
set_option maxRecDepth 20000 in
theorem ggX4_openFrom_X4_fails : GoodIn wsX4_openFrom wsX4_fails := goodIn_r _ [13, 1, 14, 15, 16, 17, 18, 19, 20, 21, 22, 23, 24, 25, 26, 27, 28, 29, 30, 31, 32, 33, 34, 35, 36, 37, 38, 39] (by decide +kernel) (by decide +kernel)
set_option maxRecDepth 20000 in
theorem gX4_openFrom_X4_fails : GoodIn wsX4_openFrom (wsV RX4 96 RX4 yX4_fails wsX4_fails) := goodIn_app (goodIn_of _ (by decide +kernel)) ggX4_openFrom_X4_fails
theorem dX4_openFrom_0 : decode cX4_openFrom 0 = .ok (.aload_n 0, 1) := by decide +kernel
theorem dX4_openFrom_1 : decode cX4_openFrom 1 = .ok (.iconst 0, 1) := by decide +kernel
theorem dX4_openFrom_2 : decode cX4_openFrom 2 = .ok (.putfield 69, 3) := by decide +kernel
theorem dX4_openFrom_5 : decode cX4_openFrom 5 = .ok (.iload_n 1, 1) := by decide +kernel
theorem dX4_openFrom_6 : decode cX4_openFrom 6 = .ok (.invokestatic 104, 3) := by decide +kernel
theorem dX4_openFrom_9 : decode cX4_openFrom 9 = .ok (.ifCond .eq 12, 3) := by decide +kernel
theorem dX4_openFrom_12 : decode cX4_openFrom 12 = .ok (.aload_n 0, 1) := by decide +kernel
theorem dX4_openFrom_13 : decode cX4_openFrom 13 = .ok (.getfield 19, 3) := by decide +kernel
theorem dX4_openFrom_16 : decode cX4_openFrom 16 = .ok (.iload_n 1, 1) := by decide +kernel
theorem dX4_openFrom_17 : decode cX4_openFrom 17 = .ok (.iaload, 1) := by decide +kernel
theorem dX4_openFrom_18 : decode cX4_openFrom 18 = .ok (.goto 8, 3) := by decide +kernel
theorem dX4_openFrom_21 : decode cX4_openFrom 21 = .ok (.aload_n 0, 1) := by decide +kernel
theorem dX4_openFrom_22 : decode cX4_openFrom 22 = .ok (.iconst 1, 1) := by decide +kernel
theorem dX4_openFrom_23 : decode cX4_openFrom 23 = .ok (.invokevirtual 96, 3) := by decide +kernel
theorem dX4_openFrom_26 : decode cX4_openFrom 26 = .ok (.ireturn, 1) := by decide +kernel
theorem dX4_isAddress_0 : decode cX4_isAddress 0 = .ok (.aload_n 0, 1) := by decide +kernel
theorem dX4_isAddress_1 : decode cX4_isAddress 1 = .ok (.getfield 35, 3) := by decide +kernel
theorem dX4_isAddress_4 : decode cX4_isAddress 4 = .ok (.iload_n 1, 1) := by decide +kernel
theorem dX4_isAddress_5 : decode cX4_isAddress 5 = .ok (.iaload, 1) := by decide +kernel
theorem dX4_isAddress_6 : decode cX4_isAddress 6 = .ok (.aload_n 0, 1) := by decide +kernel
theorem dX4_isAddress_7 : decode cX4_isAddress 7 = .ok (.getfield 86, 3) := by decide +kernel
theorem dX4_isAddress_10 : decode cX4_isAddress 10 = .ok (.if_icmp .ne 7, 3) := by decide +kernel
theorem dX4_isAddress_13 : decode cX4_isAddress 13 = .ok (.iconst 1, 1) := by decide +kernel
theorem dX4_isAddress_14 : decode cX4_isAddress 14 = .ok (.goto 4, 3) := by decide +kernel
theorem dX4_isAddress_17 : decode cX4_isAddress 17 = .ok (.iconst 0, 1) := by decide +kernel
theorem dX4_isAddress_18 : decode cX4_isAddress 18 = .ok (.istore_n 2, 1) := by decide +kernel
theorem dX4_isAddress_19 : decode cX4_isAddress 19 = .ok (.iconst 0, 1) := by decide +kernel
theorem dX4_isAddress_20 : decode cX4_isAddress 20 = .ok (.istore_n 3, 1) := by decide +kernel
theorem dX4_isAddress_21 : decode cX4_isAddress 21 = .ok (.iload_n 3, 1) := by decide +kernel
theorem dX4_isAddress_22 : decode cX4_isAddress 22 = .ok (.aload_n 0, 1) := by decide +kernel
theorem dX4_isAddress_23 : decode cX4_isAddress 23 = .ok (.getfield 86, 3) := by decide +kernel
theorem dX4_isAddress_26 : decode cX4_isAddress 26 = .ok (.if_icmp .ge 39, 3) := by decide +kernel
theorem dX4_isAddress_29 : decode cX4_isAddress 29 = .ok (.iload_n 2, 1) := by decide +kernel
theorem dX4_isAddress_30 : decode cX4_isAddress 30 = .ok (.ifCond .eq 35, 3) := by decide +kernel
theorem dX4_isAddress_33 : decode cX4_isAddress 33 = .ok (.aload_n 0, 1) := by decide +kernel
theorem dX4_isAddress_34 : decode cX4_isAddress 34 = .ok (.getfield 32, 3) := by decide +kernel
theorem dX4_isAddress_37 : decode cX4_isAddress 37 = .ok (.bipush 30, 2) := by decide +kernel
theorem dX4_isAddress_39 : decode cX4_isAddress 39 = .ok (.iload_n 1, 1) := by decide +kernel
theorem dX4_isAddress_40 : decode cX4_isAddress 40 = .ok (.imul, 1) := by decide +kernel
theorem dX4_isAddress_41 : decode cX4_isAddress 41 = .ok (.iload_n 3, 1) := by decide +kernel
theorem dX4_isAddress_42 : decode cX4_isAddress 42 = .ok (.iadd, 1) := by decide +kernel
theorem dX4_isAddress_43 : decode cX4_isAddress 43 = .ok (.iaload, 1) := by decide +kernel
theorem dX4_isAddress_44 : decode cX4_isAddress 44 = .ok (.aload_n 0, 1) := by decide +kernel
theorem dX4_isAddress_45 : decode cX4_isAddress 45 = .ok (.getfield 7, 3) := by decide +kernel
theorem dX4_isAddress_48 : decode cX4_isAddress 48 = .ok (.iload_n 3, 1) := by decide +kernel
theorem dX4_isAddress_49 : decode cX4_isAddress 49 = .ok (.iaload, 1) := by decide +kernel
theorem dX4_isAddress_50 : decode cX4_isAddress 50 = .ok (.if_icmp .ne 7, 3) := by decide +kernel
theorem dX4_isAddress_53 : decode cX4_isAddress 53 = .ok (.iconst 1, 1) := by decide +kernel
theorem dX4_isAddress_54 : decode cX4_isAddress 54 = .ok (.goto 4, 3) := by decide +kernel
theorem dX4_isAddress_57 : decode cX4_isAddress 57 = .ok (.iconst 0, 1) := by decide +kernel
theorem dX4_isAddress_58 : decode cX4_isAddress 58 = .ok (.istore_n 2, 1) := by decide +kernel
theorem dX4_isAddress_59 : decode cX4_isAddress 59 = .ok (.iinc 3 1, 3) := by decide +kernel
theorem dX4_isAddress_62 : decode cX4_isAddress 62 = .ok (.goto (-41), 3) := by decide +kernel
theorem dX4_isAddress_65 : decode cX4_isAddress 65 = .ok (.iload_n 2, 1) := by decide +kernel
theorem dX4_isAddress_66 : decode cX4_isAddress 66 = .ok (.ireturn, 1) := by decide +kernel
set_option maxRecDepth 20000 in
theorem ggX4_find_X4_isHost : GoodIn wsX4_find wsX4_isHost := goodIn_r _ [15, 16, 17, 14, 18] (by decide +kernel) (by decide +kernel)
set_option maxRecDepth 20000 in
theorem gX4_find_X4_isHost : GoodIn wsX4_find (va_wsS RX4 104 yX4_isHost wsX4_isHost) := goodIn_app (goodIn_of _ (by decide +kernel)) ggX4_find_X4_isHost
set_option maxRecDepth 20000 in
theorem ggX4_find_X4_fails : GoodIn wsX4_find wsX4_fails := goodIn_r _ [22, 1, 42, 43, 44, 45, 46, 47, 48, 49, 50, 51, 52, 53, 54, 55, 56, 57, 58, 59, 60, 61, 62, 63, 64, 65, 66, 67] (by decide +kernel) (by decide +kernel)
set_option maxRecDepth 20000 in
theorem gX4_find_X4_fails : GoodIn wsX4_find (wsV RX4 96 RX4 yX4_fails wsX4_fails) := goodIn_app (goodIn_of _ (by decide +kernel)) ggX4_find_X4_fails
set_option maxRecDepth 20000 in
theorem ggX4_find_X4_in : GoodIn wsX4_find wsX4_in := goodIn_r _ [18] (by decide +kernel) (by decide +kernel)
set_option maxRecDepth 20000 in
theorem gX4_find_X4_in : GoodIn wsX4_find (va_wsS RX4 72 yX4_in wsX4_in) := goodIn_app (goodIn_of _ (by decide +kernel)) ggX4_find_X4_in
set_option maxRecDepth 20000 in
theorem ggX4_find_X4_isAddress : GoodIn wsX4_find wsX4_isAddress := goodIn_r _ [26, 7, 4, 5, 6, 42, 43, 44, 45, 46, 47, 48, 49, 50, 51, 52, 53, 54, 55, 56, 57, 58, 59, 60, 61, 62, 63, 64, 65, 66, 67] (by decide +kernel) (by decide +kernel)
set_option maxRecDepth 20000 in
theorem gX4_find_X4_isAddress : GoodIn wsX4_find (wsV RX4 107 RX4 yX4_isAddress wsX4_isAddress) := goodIn_app (goodIn_of _ (by decide +kernel)) ggX4_find_X4_isAddress
set_option maxRecDepth 20000 in
theorem ggX4_find_X4_repeats : GoodIn wsX4_find wsX4_repeats := goodIn_r _ [30, 31, 32, 33, 34, 14, 35, 4, 6, 36, 37, 38, 39, 40, 41, 42, 43, 44, 45, 46, 47, 48, 49, 50, 51, 52, 53, 54, 55, 56, 57, 58, 59, 60, 61, 62, 63, 64, 65, 66, 67] (by decide +kernel) (by decide +kernel)
set_option maxRecDepth 20000 in
theorem gX4_find_X4_repeats : GoodIn wsX4_find (wsV RX4 100 RX4 yX4_repeats wsX4_repeats) := goodIn_app (goodIn_of _ (by decide +kernel)) ggX4_find_X4_repeats
