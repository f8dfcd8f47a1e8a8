theorem dX3_paceOf_19 : decode cX3_paceOf 19 = .ok (.iconst 1, 1) := by decide +kernel
theorem dX3_paceOf_20 : decode cX3_paceOf 20 = .ok (.iadd, 1) := by decide +kernel
theorem dX3_paceOf_21 : decode cX3_paceOf 21 = .ok (.invokestatic 235, 3) := by decide +kernel
theorem dX3_paceOf_24 : decode cX3_paceOf 24 = .ok (.invokestatic 187, 3) := by decide +kernel
theorem dX3_paceOf_27 : decode cX3_paceOf 27 = .ok (.ireturn, 1) := by decide +kernel
theorem dX3_dividedUp_0 : decode cX3_dividedUp 0 = .ok (.iload_n 1, 1) := by decide +kernel
theorem dX3_dividedUp_1 : decode cX3_dividedUp 1 = .ok (.iconst 1, 1) := by decide +kernel
theorem dX3_dividedUp_2 : decode cX3_dividedUp 2 = .ok (.if_icmp .ge 7, 3) := by decide +kernel
theorem dX3_dividedUp_5 : decode cX3_dividedUp 5 = .ok (.iload_n 0, 1) := by decide +kernel
theorem dX3_dividedUp_6 : decode cX3_dividedUp 6 = .ok (.goto 10, 3) := by decide +kernel
theorem dX3_dividedUp_9 : decode cX3_dividedUp 9 = .ok (.iload_n 0, 1) := by decide +kernel
theorem dX3_dividedUp_10 : decode cX3_dividedUp 10 = .ok (.iload_n 1, 1) := by decide +kernel
theorem dX3_dividedUp_11 : decode cX3_dividedUp 11 = .ok (.iadd, 1) := by decide +kernel
theorem dX3_dividedUp_12 : decode cX3_dividedUp 12 = .ok (.iconst 1, 1) := by decide +kernel
theorem dX3_dividedUp_13 : decode cX3_dividedUp 13 = .ok (.isub, 1) := by decide +kernel
theorem dX3_dividedUp_14 : decode cX3_dividedUp 14 = .ok (.iload_n 1, 1) := by decide +kernel
theorem dX3_dividedUp_15 : decode cX3_dividedUp 15 = .ok (.idiv, 1) := by decide +kernel
theorem dX3_dividedUp_16 : decode cX3_dividedUp 16 = .ok (.ireturn, 1) := by decide +kernel
theorem dX3_forgetSpread_0 : decode cX3_forgetSpread 0 = .ok (.aload_n 0, 1) := by decide +kernel
theorem dX3_forgetSpread_1 : decode cX3_forgetSpread 1 = .ok (.getfield 25, 3) := by decide +kernel
theorem dX3_forgetSpread_4 : decode cX3_forgetSpread 4 = .ok (.astore_n 1, 1) := by decide +kernel
theorem dX3_forgetSpread_5 : decode cX3_forgetSpread 5 = .ok (.aload_n 1, 1) := by decide +kernel
theorem dX3_forgetSpread_6 : decode cX3_forgetSpread 6 = .ok (.arraylength, 1) := by decide +kernel
theorem dX3_forgetSpread_7 : decode cX3_forgetSpread 7 = .ok (.istore_n 2, 1) := by decide +kernel
theorem dX3_forgetSpread_8 : decode cX3_forgetSpread 8 = .ok (.iconst 0, 1) := by decide +kernel
theorem dX3_forgetSpread_9 : decode cX3_forgetSpread 9 = .ok (.istore_n 3, 1) := by decide +kernel
theorem dX3_forgetSpread_10 : decode cX3_forgetSpread 10 = .ok (.iload_n 3, 1) := by decide +kernel
theorem dX3_forgetSpread_11 : decode cX3_forgetSpread 11 = .ok (.iload_n 2, 1) := by decide +kernel
theorem dX3_forgetSpread_12 : decode cX3_forgetSpread 12 = .ok (.if_icmp .ge 25, 3) := by decide +kernel
theorem dX3_forgetSpread_15 : decode cX3_forgetSpread 15 = .ok (.aload_n 1, 1) := by decide +kernel
theorem dX3_forgetSpread_16 : decode cX3_forgetSpread 16 = .ok (.iload_n 3, 1) := by decide +kernel
theorem dX3_forgetSpread_17 : decode cX3_forgetSpread 17 = .ok (.aaload, 1) := by decide +kernel
theorem dX3_forgetSpread_18 : decode cX3_forgetSpread 18 = .ok (.astore 4, 2) := by decide +kernel
theorem dX3_forgetSpread_20 : decode cX3_forgetSpread 20 = .ok (.aload 4, 2) := by decide +kernel
theorem dX3_forgetSpread_22 : decode cX3_forgetSpread 22 = .ok (.ifnull 9, 3) := by decide +kernel
theorem dX3_forgetSpread_25 : decode cX3_forgetSpread 25 = .ok (.aload 4, 2) := by decide +kernel
theorem dX3_forgetSpread_27 : decode cX3_forgetSpread 27 = .ok (.iconst 0, 1) := by decide +kernel
theorem dX3_forgetSpread_28 : decode cX3_forgetSpread 28 = .ok (.putfield 198, 3) := by decide +kernel
theorem dX3_forgetSpread_31 : decode cX3_forgetSpread 31 = .ok (.iinc 3 1, 3) := by decide +kernel
theorem dX3_forgetSpread_34 : decode cX3_forgetSpread 34 = .ok (.goto (-24), 3) := by decide +kernel
theorem dX3_forgetSpread_37 : decode cX3_forgetSpread 37 = .ok (.return_, 1) := by decide +kernel
set_option maxRecDepth 20000 in
theorem ggX3_spreadOneVisit_X2_isKept : GoodIn wsX3_spreadOneVisit wsX2_isKept := goodIn_r _ [7, 8, 9, 35, 36, 37, 38, 39, 40, 41, 42, 43, 44] (by decide +kernel) (by decide +kernel)
set_option maxRecDepth 20000 in
theorem gX3_spreadOneVisit_X2_isKept : GoodIn wsX3_spreadOneVisit (wsV RX3 124 RX2 yX2_isKept wsX2_isKept) := goodIn_app (goodIn_of _ (by decide +kernel)) ggX3_spreadOneVisit_X2_isKept
set_option maxRecDepth 20000 in
theorem ggX3_spreadOneVisit_X2_gainsMoreThan : GoodIn wsX3_spreadOneVisit wsX2_gainsMoreThan := goodIn_r _ [13, 14, 15, 16, 6, 17, 18, 19, 20, 21, 22, 23, 24, 25, 35, 36, 37, 38, 39, 40, 41, 42, 43, 44] (by decide +kernel) (by decide +kernel)
set_option maxRecDepth 20000 in
theorem gX3_spreadOneVisit_X2_gainsMoreThan : GoodIn wsX3_spreadOneVisit (wsV RX3 238 RX2 yX2_gainsMoreThan wsX2_gainsMoreThan) := goodIn_app (goodIn_of _ (by decide +kernel)) ggX3_spreadOneVisit_X2_gainsMoreThan
theorem dX3_spreadOneVisit_0 : decode cX3_spreadOneVisit 0 = .ok (.aconst_null, 1) := by decide +kernel
theorem dX3_spreadOneVisit_1 : decode cX3_spreadOneVisit 1 = .ok (.astore_n 1, 1) := by decide +kernel
theorem dX3_spreadOneVisit_2 : decode cX3_spreadOneVisit 2 = .ok (.aload_n 0, 1) := by decide +kernel
theorem dX3_spreadOneVisit_3 : decode cX3_spreadOneVisit 3 = .ok (.getfield 25, 3) := by decide +kernel
theorem dX3_spreadOneVisit_6 : decode cX3_spreadOneVisit 6 = .ok (.astore_n 2, 1) := by decide +kernel
theorem dX3_spreadOneVisit_7 : decode cX3_spreadOneVisit 7 = .ok (.aload_n 2, 1) := by decide +kernel
theorem dX3_spreadOneVisit_8 : decode cX3_spreadOneVisit 8 = .ok (.arraylength, 1) := by decide +kernel
theorem dX3_spreadOneVisit_9 : decode cX3_spreadOneVisit 9 = .ok (.istore_n 3, 1) := by decide +kernel
theorem dX3_spreadOneVisit_10 : decode cX3_spreadOneVisit 10 = .ok (.iconst 0, 1) := by decide +kernel
theorem dX3_spreadOneVisit_11 : decode cX3_spreadOneVisit 11 = .ok (.istore 4, 2) := by decide +kernel
theorem dX3_spreadOneVisit_13 : decode cX3_spreadOneVisit 13 = .ok (.iload 4, 2) := by decide +kernel
theorem dX3_spreadOneVisit_15 : decode cX3_spreadOneVisit 15 = .ok (.iload_n 3, 1) := by decide +kernel
theorem dX3_spreadOneVisit_16 : decode cX3_spreadOneVisit 16 = .ok (.if_icmp .ge 44, 3) := by decide +kernel
theorem dX3_spreadOneVisit_19 : decode cX3_spreadOneVisit 19 = .ok (.aload_n 2, 1) := by decide +kernel
theorem dX3_spreadOneVisit_20 : decode cX3_spreadOneVisit 20 = .ok (.iload 4, 2) := by decide +kernel
theorem dX3_spreadOneVisit_22 : decode cX3_spreadOneVisit 22 = .ok (.aaload, 1) := by decide +kernel
theorem dX3_spreadOneVisit_23 : decode cX3_spreadOneVisit 23 = .ok (.astore 5, 2) := by decide +kernel
theorem dX3_spreadOneVisit_25 : decode cX3_spreadOneVisit 25 = .ok (.aload 5, 2) := by decide +kernel
theorem dX3_spreadOneVisit_27 : decode cX3_spreadOneVisit 27 = .ok (.ifnull 27, 3) := by decide +kernel
theorem dX3_spreadOneVisit_30 : decode cX3_spreadOneVisit 30 = .ok (.aload 5, 2) := by decide +kernel
theorem dX3_spreadOneVisit_32 : decode cX3_spreadOneVisit 32 = .ok (.invokevirtual 124, 3) := by decide +kernel
theorem dX3_spreadOneVisit_35 : decode cX3_spreadOneVisit 35 = .ok (.ifCond .eq 19, 3) := by decide +kernel
theorem dX3_spreadOneVisit_38 : decode cX3_spreadOneVisit 38 = .ok (.aload_n 1, 1) := by decide +kernel
theorem dX3_spreadOneVisit_39 : decode cX3_spreadOneVisit 39 = .ok (.ifnull 12, 3) := by decide +kernel
theorem dX3_spreadOneVisit_42 : decode cX3_spreadOneVisit 42 = .ok (.aload 5, 2) := by decide +kernel
theorem dX3_spreadOneVisit_44 : decode cX3_spreadOneVisit 44 = .ok (.aload_n 1, 1) := by decide +kernel
theorem dX3_spreadOneVisit_45 : decode cX3_spreadOneVisit 45 = .ok (.invokevirtual 238, 3) := by decide +kernel
theorem dX3_spreadOneVisit_48 : decode cX3_spreadOneVisit 48 = .ok (.ifCond .eq 6, 3) := by decide +kernel
theorem dX3_spreadOneVisit_51 : decode cX3_spreadOneVisit 51 = .ok (.aload 5, 2) := by decide +kernel
theorem dX3_spreadOneVisit_53 : decode cX3_spreadOneVisit 53 = .ok (.astore_n 1, 1) := by decide +kernel
theorem dX3_spreadOneVisit_54 : decode cX3_spreadOneVisit 54 = .ok (.iinc 4 1, 3) := by decide +kernel
theorem dX3_spreadOneVisit_57 : decode cX3_spreadOneVisit 57 = .ok (.goto (-44), 3) := by decide +kernel
theorem dX3_spreadOneVisit_60 : decode cX3_spreadOneVisit 60 = .ok (.aload_n 1, 1) := by decide +kernel
theorem dX3_spreadOneVisit_61 : decode cX3_spreadOneVisit 61 = .ok (.ifnull 13, 3) := by decide +kernel
theorem dX3_spreadOneVisit_64 : decode cX3_spreadOneVisit 64 = .ok (.aload_n 1, 1) := by decide +kernel
theorem dX3_spreadOneVisit_65 : decode cX3_spreadOneVisit 65 = .ok (.dup, 1) := by decide +kernel
theorem dX3_spreadOneVisit_66 : decode cX3_spreadOneVisit 66 = .ok (.getfield 198, 3) := by decide +kernel
theorem dX3_spreadOneVisit_69 : decode cX3_spreadOneVisit 69 = .ok (.iconst 1, 1) := by decide +kernel
theorem dX3_spreadOneVisit_70 : decode cX3_spreadOneVisit 70 = .ok (.iadd, 1) := by decide +kernel
theorem dX3_spreadOneVisit_71 : decode cX3_spreadOneVisit 71 = .ok (.putfield 198, 3) := by decide +kernel
theorem dX3_spreadOneVisit_74 : decode cX3_spreadOneVisit 74 = .ok (.return_, 1) := by decide +kernel
theorem dJ9_max_7cf53_0 : decode cJ9_max_7cf53 0 = .ok (.iload_n 0, 1) := by decide +kernel
theorem dJ9_max_7cf53_1 : decode cJ9_max_7cf53 1 = .ok (.iload_n 1, 1) := by decide +kernel
theorem dJ9_max_7cf53_2 : decode cJ9_max_7cf53 2 = .ok (.if_icmp .lt 7, 3) := by decide +kernel
theorem dJ9_max_7cf53_5 : decode cJ9_max_7cf53 5 = .ok (.iload_n 0, 1) := by decide +kernel
theorem dJ9_max_7cf53_6 : decode cJ9_max_7cf53 6 = .ok (.goto 4, 3) := by decide +kernel
theorem dJ9_max_7cf53_9 : decode cJ9_max_7cf53 9 = .ok (.iload_n 1, 1) := by decide +kernel
theorem dJ9_max_7cf53_10 : decode cJ9_max_7cf53 10 = .ok (.ireturn, 1) := by decide +kernel
theorem dJ9_min_7cf53_0 : decode cJ9_min_7cf53 0 = .ok (.iload_n 0, 1) := by decide +kernel
theorem dJ9_min_7cf53_1 : decode cJ9_min_7cf53 1 = .ok (.iload_n 1, 1) := by decide +kernel
theorem dJ9_min_7cf53_2 : decode cJ9_min_7cf53 2 = .ok (.if_icmp .gt 7, 3) := by decide +kernel
theorem dJ9_min_7cf53_5 : decode cJ9_min_7cf53 5 = .ok (.iload_n 0, 1) := by decide +kernel
theorem dJ9_min_7cf53_6 : decode cJ9_min_7cf53 6 = .ok (.goto 4, 3) := by decide +kernel
theorem dJ9_min_7cf53_9 : decode cJ9_min_7cf53 9 = .ok (.iload_n 1, 1) := by decide +kernel
theorem dJ9_min_7cf53_10 : decode cJ9_min_7cf53 10 = .ok (.ireturn, 1) := by decide +kernel
theorem dL_cell_0 : decode cL_cell 0 = .ok (.iload_n 1, 1) := by decide +kernel
theorem dL_cell_1 : decode cL_cell 1 = .ok (.aload_n 0, 1) := by decide +kernel
theorem dL_cell_2 : decode cL_cell 2 = .ok (.arraylength, 1) := by decide +kernel
theorem dL_cell_3 : decode cL_cell 3 = .ok (.if_icmp .ge 9, 3) := by decide +kernel
theorem dL_cell_6 : decode cL_cell 6 = .ok (.aload_n 0, 1) := by decide +kernel
theorem dL_cell_7 : decode cL_cell 7 = .ok (.iload_n 1, 1) := by decide +kernel
theorem dL_cell_8 : decode cL_cell 8 = .ok (.iaload, 1) := by decide +kernel
theorem dL_cell_9 : decode cL_cell 9 = .ok (.goto 13, 3) := by decide +kernel
theorem dL_cell_12 : decode cL_cell 12 = .ok (.ldc 7, 2) := by decide +kernel
theorem dL_cell_14 : decode cL_cell 14 = .ok (.iload_n 1, 1) := by decide +kernel
theorem dL_cell_15 : decode cL_cell 15 = .ok (.bipush 27, 2) := by decide +kernel
theorem dL_cell_17 : decode cL_cell 17 = .ok (.iadd, 1) := by decide +kernel
theorem dL_cell_18 : decode cL_cell 18 = .ok (.imul, 1) := by decide +kernel
theorem dL_cell_19 : decode cL_cell 19 = .ok (.ldc 8, 2) := by decide +kernel
theorem dL_cell_21 : decode cL_cell 21 = .ok (.iadd, 1) := by decide +kernel
theorem dL_cell_22 : decode cL_cell 22 = .ok (.ireturn, 1) := by decide +kernel
theorem dL_low_0 : decode cL_low 0 = .ok (.iload_n 0, 1) := by decide +kernel
theorem dL_low_1 : decode cL_low 1 = .ok (.ldc 9, 2) := by decide +kernel
theorem dL_low_3 : decode cL_low 3 = .ok (.iand, 1) := by decide +kernel
theorem dL_low_4 : decode cL_low 4 = .ok (.iload_n 1, 1) := by decide +kernel
theorem dL_low_5 : decode cL_low 5 = .ok (.irem, 1) := by decide +kernel
theorem dL_low_6 : decode cL_low 6 = .ok (.ireturn, 1) := by decide +kernel
set_option maxRecDepth 20000 in
theorem ggL_visit_X3_visit : GoodIn wsL_visit wsX3_visit := goodIn_ca (goodIn_ca (goodIn_ca (goodIn_r _ [6, 7, 8, 9, 10, 11, 12, 13, 14, 15, 16, 17, 5, 18, 19, 20, 21, 22, 23, 24, 25, 26, 27, 28, 29, 30, 31, 32, 33, 34, 35, 36, 37, 38, 39, 40, 41, 42, 43, 44, 45, 46, 47, 48, 49, 50, 51, 52, 53, 54, 55, 56, 57, 58, 59, 60, 61, 62, 63, 64, 65, 66, 67, 68, 69, 70, 71, 72, 73, 74, 75, 76, 77, 78, 79, 80, 81, 82, 83, 84, 85, 86, 87, 88, 89, 90, 91, 92, 93, 94, 95, 96, 97, 98, 99, 100, 101] (by decide +kernel) (by decide +kernel)) (goodIn_sub (fun _ h => List.mem_cons_of_mem _ (List.mem_append_left _ (List.mem_append_left _ (List.mem_append_right _ h)))) (by decide +kernel))) (goodIn_sub (fun _ h => List.mem_cons_of_mem _ (List.mem_append_left _ (List.mem_append_right _ h))) (by decide +kernel))) (goodIn_sub (fun _ h => List.mem_cons_of_mem _ (List.mem_append_right _ h)) (by decide +kernel))
set_option maxRecDepth 20000 in
theorem gL_visit_X3_visit : GoodIn wsL_visit (wsV RL 10 RX3 yX3_visit wsX3_visit) := goodIn_app (goodIn_of _ (by decide +kernel)) ggL_visit_X3_visit
theorem dL_visit_0 : decode cL_visit 0 = .ok (.aload_n 0, 1) := by decide +kernel
theorem dL_visit_1 : decode cL_visit 1 = .ok (.iload_n 1, 1) := by decide +kernel
theorem dL_visit_2 : decode cL_visit 2 = .ok (.iload_n 2, 1) := by decide +kernel
theorem dL_visit_3 : decode cL_visit 3 = .ok (.invokevirtual 10, 3) := by decide +kernel
theorem dL_visit_6 : decode cL_visit 6 = .ok (.ireturn, 1) := by decide +kernel
theorem dL_visit_7 : decode cL_visit 7 = .ok (.astore_n 3, 1) := by decide +kernel
theorem dL_visit_8 : decode cL_visit 8 = .ok (.bipush (-3), 2) := by decide +kernel
theorem dL_visit_10 : decode cL_visit 10 = .ok (.ireturn, 1) := by decide +kernel
theorem dL_address_0 : decode cL_address 0 = .ok (.lconst 0, 1) := by decide +kernel
theorem dL_address_1 : decode cL_address 1 = .ok (.lstore_n 2, 1) := by decide +kernel
theorem dL_address_2 : decode cL_address 2 = .ok (.iconst 0, 1) := by decide +kernel
theorem dL_address_3 : decode cL_address 3 = .ok (.istore 4, 2) := by decide +kernel
theorem dL_address_5 : decode cL_address 5 = .ok (.iload 4, 2) := by decide +kernel
theorem dL_address_7 : decode cL_address 7 = .ok (.aload_n 1, 1) := by decide +kernel
theorem dL_address_8 : decode cL_address 8 = .ok (.bipush 7, 2) := by decide +kernel
theorem dL_address_10 : decode cL_address 10 = .ok (.iaload, 1) := by decide +kernel
theorem dL_address_11 : decode cL_address 11 = .ok (.if_icmp .ge 23, 3) := by decide +kernel
theorem dL_address_14 : decode cL_address 14 = .ok (.lload_n 2, 1) := by decide +kernel
theorem dL_address_15 : decode cL_address 15 = .ok (.ldc2_w 18, 3) := by decide +kernel
theorem dL_address_18 : decode cL_address 18 = .ok (.lmul, 1) := by decide +kernel
theorem dL_address_19 : decode cL_address 19 = .ok (.aload_n 0, 1) := by decide +kernel
theorem dL_address_20 : decode cL_address 20 = .ok (.iload 4, 2) := by decide +kernel
theorem dL_address_22 : decode cL_address 22 = .ok (.iaload, 1) := by decide +kernel
theorem dL_address_23 : decode cL_address 23 = .ok (.i2l, 1) := by decide +kernel
theorem dL_address_24 : decode cL_address 24 = .ok (.ladd, 1) := by decide +kernel
theorem dL_address_25 : decode cL_address 25 = .ok (.lconst 1, 1) := by decide +kernel
theorem dL_address_26 : decode cL_address 26 = .ok (.ladd, 1) := by decide +kernel
theorem dL_address_27 : decode cL_address 27 = .ok (.lstore_n 2, 1) := by decide +kernel
theorem dL_address_28 : decode cL_address 28 = .ok (.iinc 4 1, 3) := by decide +kernel
theorem dL_address_31 : decode cL_address 31 = .ok (.goto (-26), 3) := by decide +kernel
theorem dL_address_34 : decode cL_address 34 = .ok (.lload_n 2, 1) := by decide +kernel
theorem dL_address_35 : decode cL_address 35 = .ok (.lreturn, 1) := by decide +kernel
theorem dL_segments_0 : decode cL_segments 0 = .ok (.iconst 0, 1) := by decide +kernel
theorem dL_segments_1 : decode cL_segments 1 = .ok (.istore_n 3, 1) := by decide +kernel
theorem dL_segments_2 : decode cL_segments 2 = .ok (.lconst 0, 1) := by decide +kernel
theorem dL_segments_3 : decode cL_segments 3 = .ok (.lstore 4, 2) := by decide +kernel
theorem dL_segments_5 : decode cL_segments 5 = .ok (.iconst 0, 1) := by decide +kernel
theorem dL_segments_6 : decode cL_segments 6 = .ok (.istore 6, 2) := by decide +kernel
theorem dL_segments_8 : decode cL_segments 8 = .ok (.iload 6, 2) := by decide +kernel
theorem dL_segments_10 : decode cL_segments 10 = .ok (.aload_n 2, 1) := by decide +kernel
theorem dL_segments_11 : decode cL_segments 11 = .ok (.bipush 7, 2) := by decide +kernel
theorem dL_segments_13 : decode cL_segments 13 = .ok (.iaload, 1) := by decide +kernel
theorem dL_segments_14 : decode cL_segments 14 = .ok (.if_icmp .gt 69, 3) := by decide +kernel
theorem dL_segments_17 : decode cL_segments 17 = .ok (.iload 6, 2) := by decide +kernel
theorem dL_segments_19 : decode cL_segments 19 = .ok (.aload_n 2, 1) := by decide +kernel
theorem dL_segments_20 : decode cL_segments 20 = .ok (.bipush 7, 2) := by decide +kernel
theorem dL_segments_22 : decode cL_segments 22 = .ok (.iaload, 1) := by decide +kernel
theorem dL_segments_23 : decode cL_segments 23 = .ok (.if_icmp .ge 10, 3) := by decide +kernel
theorem dL_segments_26 : decode cL_segments 26 = .ok (.aload_n 0, 1) := by decide +kernel
theorem dL_segments_27 : decode cL_segments 27 = .ok (.iload 6, 2) := by decide +kernel
theorem dL_segments_29 : decode cL_segments 29 = .ok (.iaload, 1) := by decide +kernel
theorem dL_segments_30 : decode cL_segments 30 = .ok (.goto 4, 3) := by decide +kernel
theorem dL_segments_33 : decode cL_segments 33 = .ok (.iconst 0, 1) := by decide +kernel
theorem dL_segments_34 : decode cL_segments 34 = .ok (.istore 7, 2) := by decide +kernel
theorem dL_segments_36 : decode cL_segments 36 = .ok (.iload 7, 2) := by decide +kernel
theorem dL_segments_38 : decode cL_segments 38 = .ok (.ifCond .ne 18, 3) := by decide +kernel
theorem dL_segments_41 : decode cL_segments 41 = .ok (.lload 4, 2) := by decide +kernel
theorem dL_segments_43 : decode cL_segments 43 = .ok (.lconst 0, 1) := by decide +kernel
theorem dL_segments_44 : decode cL_segments 44 = .ok (.lcmp, 1) := by decide +kernel
theorem dL_segments_45 : decode cL_segments 45 = .ok (.ifCond .le 11, 3) := by decide +kernel
theorem dL_segments_48 : decode cL_segments 48 = .ok (.aload_n 1, 1) := by decide +kernel
theorem dL_segments_49 : decode cL_segments 49 = .ok (.iload_n 3, 1) := by decide +kernel
theorem dL_segments_50 : decode cL_segments 50 = .ok (.lload 4, 2) := by decide +kernel
theorem dL_segments_52 : decode cL_segments 52 = .ok (.lastore, 1) := by decide +kernel
theorem dL_segments_53 : decode cL_segments 53 = .ok (.iinc 3 1, 3) := by decide +kernel
theorem dL_segments_56 : decode cL_segments 56 = .ok (.iload 7, 2) := by decide +kernel
theorem dL_segments_58 : decode cL_segments 58 = .ok (.ifCond .ne 7, 3) := by decide +kernel
theorem dL_segments_61 : decode cL_segments 61 = .ok (.lconst 0, 1) := by decide +kernel
theorem dL_segments_62 : decode cL_segments 62 = .ok (.goto 13, 3) := by decide +kernel
theorem dL_segments_65 : decode cL_segments 65 = .ok (.lload 4, 2) := by decide +kernel
theorem dL_segments_67 : decode cL_segments 67 = .ok (.ldc2_w 18, 3) := by decide +kernel
theorem dL_segments_70 : decode cL_segments 70 = .ok (.lmul, 1) := by decide +kernel
theorem dL_segments_71 : decode cL_segments 71 = .ok (.iload 7, 2) := by decide +kernel
theorem dL_segments_73 : decode cL_segments 73 = .ok (.i2l, 1) := by decide +kernel
theorem dL_segments_74 : decode cL_segments 74 = .ok (.ladd, 1) := by decide +kernel
theorem dL_segments_75 : decode cL_segments 75 = .ok (.lstore 4, 2) := by decide +kernel
theorem dL_segments_77 : decode cL_segments 77 = .ok (.iinc 6 1, 3) := by decide +kernel
theorem dL_segments_80 : decode cL_segments 80 = .ok (.goto (-72), 3) := by decide +kernel
theorem dL_segments_83 : decode cL_segments 83 = .ok (.iload_n 3, 1) := by decide +kernel
theorem dL_segments_84 : decode cL_segments 84 = .ok (.ireturn, 1) := by decide +kernel
set_option maxRecDepth 20000 in
theorem ggL_isTrap_L_segments : GoodIn wsL_isTrap wsL_segments := goodIn_r _ [4, 5] (by decide +kernel) (by decide +kernel)
set_option maxRecDepth 20000 in
theorem gL_isTrap_L_segments : GoodIn wsL_isTrap (va_wsS RL 20 yL_segments wsL_segments) := goodIn_app (goodIn_of _ (by decide +kernel)) ggL_isTrap_L_segments
theorem dL_isTrap_0 : decode cL_isTrap 0 = .ok (.aload_n 0, 1) := by decide +kernel
theorem dL_isTrap_1 : decode cL_isTrap 1 = .ok (.aload_n 1, 1) := by decide +kernel
theorem dL_isTrap_2 : decode cL_isTrap 2 = .ok (.aload_n 2, 1) := by decide +kernel
theorem dL_isTrap_3 : decode cL_isTrap 3 = .ok (.invokestatic 20, 3) := by decide +kernel
theorem dL_isTrap_6 : decode cL_isTrap 6 = .ok (.istore_n 3, 1) := by decide +kernel
theorem dL_isTrap_7 : decode cL_isTrap 7 = .ok (.iconst 0, 1) := by decide +kernel
theorem dL_isTrap_8 : decode cL_isTrap 8 = .ok (.istore 4, 2) := by decide +kernel
theorem dL_isTrap_10 : decode cL_isTrap 10 = .ok (.iconst 0, 1) := by decide +kernel
theorem dL_isTrap_11 : decode cL_isTrap 11 = .ok (.istore 5, 2) := by decide +kernel
theorem dL_isTrap_13 : decode cL_isTrap 13 = .ok (.iload 5, 2) := by decide +kernel
theorem dL_isTrap_15 : decode cL_isTrap 15 = .ok (.iload_n 3, 1) := by decide +kernel
theorem dL_isTrap_16 : decode cL_isTrap 16 = .ok (.if_icmp .ge 137, 3) := by decide +kernel
theorem dL_isTrap_19 : decode cL_isTrap 19 = .ok (.iload 4, 2) := by decide +kernel
theorem dL_isTrap_21 : decode cL_isTrap 21 = .ok (.ifCond .ne 39, 3) := by decide +kernel
theorem dL_isTrap_24 : decode cL_isTrap 24 = .ok (.iload 5, 2) := by decide +kernel
theorem dL_isTrap_26 : decode cL_isTrap 26 = .ok (.iconst 2, 1) := by decide +kernel
theorem dL_isTrap_27 : decode cL_isTrap 27 = .ok (.iadd, 1) := by decide +kernel
theorem dL_isTrap_28 : decode cL_isTrap 28 = .ok (.iload_n 3, 1) := by decide +kernel
theorem dL_isTrap_29 : decode cL_isTrap 29 = .ok (.if_icmp .ge 35, 3) := by decide +kernel
theorem dL_isTrap_32 : decode cL_isTrap 32 = .ok (.aload_n 1, 1) := by decide +kernel
theorem dL_isTrap_33 : decode cL_isTrap 33 = .ok (.iload 5, 2) := by decide +kernel
theorem dL_isTrap_35 : decode cL_isTrap 35 = .ok (.laload, 1) := by decide +kernel
theorem dL_isTrap_36 : decode cL_isTrap 36 = .ok (.aload_n 1, 1) := by decide +kernel
theorem dL_isTrap_37 : decode cL_isTrap 37 = .ok (.iload 5, 2) := by decide +kernel
theorem dL_isTrap_39 : decode cL_isTrap 39 = .ok (.iconst 1, 1) := by decide +kernel
theorem dL_isTrap_40 : decode cL_isTrap 40 = .ok (.iadd, 1) := by decide +kernel
theorem dL_isTrap_41 : decode cL_isTrap 41 = .ok (.laload, 1) := by decide +kernel
theorem dL_isTrap_42 : decode cL_isTrap 42 = .ok (.lcmp, 1) := by decide +kernel
theorem dL_isTrap_43 : decode cL_isTrap 43 = .ok (.ifCond .ne 21, 3) := by decide +kernel
theorem dL_isTrap_46 : decode cL_isTrap 46 = .ok (.aload_n 1, 1) := by decide +kernel
theorem dL_isTrap_47 : decode cL_isTrap 47 = .ok (.iload 5, 2) := by decide +kernel
theorem dL_isTrap_49 : decode cL_isTrap 49 = .ok (.laload, 1) := by decide +kernel
theorem dL_isTrap_50 : decode cL_isTrap 50 = .ok (.aload_n 1, 1) := by decide +kernel
theorem dL_isTrap_51 : decode cL_isTrap 51 = .ok (.iload 5, 2) := by decide +kernel
theorem dL_isTrap_53 : decode cL_isTrap 53 = .ok (.iconst 2, 1) := by decide +kernel
theorem dL_isTrap_54 : decode cL_isTrap 54 = .ok (.iadd, 1) := by decide +kernel
theorem dL_isTrap_55 : decode cL_isTrap 55 = .ok (.laload, 1) := by decide +kernel
theorem dL_isTrap_56 : decode cL_isTrap 56 = .ok (.lcmp, 1) := by decide +kernel
theorem dL_isTrap_57 : decode cL_isTrap 57 = .ok (.ifCond .ne 7, 3) := by decide +kernel
theorem dL_isTrap_60 : decode cL_isTrap 60 = .ok (.iconst 1, 1) := by decide +kernel
theorem dL_isTrap_61 : decode cL_isTrap 61 = .ok (.goto 4, 3) := by decide +kernel
theorem dL_isTrap_64 : decode cL_isTrap 64 = .ok (.iconst 0, 1) := by decide +kernel
theorem dL_isTrap_65 : decode cL_isTrap 65 = .ok (.istore 4, 2) := by decide +kernel
theorem dL_isTrap_67 : decode cL_isTrap 67 = .ok (.iload 4, 2) := by decide +kernel
theorem dL_isTrap_69 : decode cL_isTrap 69 = .ok (.ifCond .ne 71, 3) := by decide +kernel
theorem dL_isTrap_72 : decode cL_isTrap 72 = .ok (.iload 5, 2) := by decide +kernel
theorem dL_isTrap_74 : decode cL_isTrap 74 = .ok (.iconst 5, 1) := by decide +kernel
theorem dL_isTrap_75 : decode cL_isTrap 75 = .ok (.iadd, 1) := by decide +kernel
theorem dL_isTrap_76 : decode cL_isTrap 76 = .ok (.iload_n 3, 1) := by decide +kernel
theorem dL_isTrap_77 : decode cL_isTrap 77 = .ok (.if_icmp .ge 67, 3) := by decide +kernel
theorem dL_isTrap_80 : decode cL_isTrap 80 = .ok (.aload_n 1, 1) := by decide +kernel
theorem dL_isTrap_81 : decode cL_isTrap 81 = .ok (.iload 5, 2) := by decide +kernel
theorem dL_isTrap_83 : decode cL_isTrap 83 = .ok (.laload, 1) := by decide +kernel
theorem dL_isTrap_84 : decode cL_isTrap 84 = .ok (.aload_n 1, 1) := by decide +kernel
theorem dL_isTrap_85 : decode cL_isTrap 85 = .ok (.iload 5, 2) := by decide +kernel
theorem dL_isTrap_87 : decode cL_isTrap 87 = .ok (.iconst 2, 1) := by decide +kernel
theorem dL_isTrap_88 : decode cL_isTrap 88 = .ok (.iadd, 1) := by decide +kernel
theorem dL_isTrap_89 : decode cL_isTrap 89 = .ok (.laload, 1) := by decide +kernel
theorem dL_isTrap_90 : decode cL_isTrap 90 = .ok (.lcmp, 1) := by decide +kernel
theorem dL_isTrap_91 : decode cL_isTrap 91 = .ok (.ifCond .ne 53, 3) := by decide +kernel
theorem dL_isTrap_94 : decode cL_isTrap 94 = .ok (.aload_n 1, 1) := by decide +kernel
theorem dL_isTrap_95 : decode cL_isTrap 95 = .ok (.iload 5, 2) := by decide +kernel
theorem dL_isTrap_97 : decode cL_isTrap 97 = .ok (.laload, 1) := by decide +kernel
theorem dL_isTrap_98 : decode cL_isTrap 98 = .ok (.aload_n 1, 1) := by decide +kernel
theorem dL_isTrap_99 : decode cL_isTrap 99 = .ok (.iload 5, 2) := by decide +kernel
theorem dL_isTrap_101 : decode cL_isTrap 101 = .ok (.iconst 4, 1) := by decide +kernel
theorem dL_isTrap_102 : decode cL_isTrap 102 = .ok (.iadd, 1) := by decide +kernel
theorem dL_isTrap_103 : decode cL_isTrap 103 = .ok (.laload, 1) := by decide +kernel
theorem dL_isTrap_104 : decode cL_isTrap 104 = .ok (.lcmp, 1) := by decide +kernel
theorem dL_isTrap_105 : decode cL_isTrap 105 = .ok (.ifCond .ne 39, 3) := by decide +kernel
theorem dL_isTrap_108 : decode cL_isTrap 108 = .ok (.aload_n 1, 1) := by decide +kernel
theorem dL_isTrap_109 : decode cL_isTrap 109 = .ok (.iload 5, 2) := by decide +kernel
theorem dL_isTrap_111 : decode cL_isTrap 111 = .ok (.iconst 1, 1) := by decide +kernel
theorem dL_isTrap_112 : decode cL_isTrap 112 = .ok (.iadd, 1) := by decide +kernel
theorem dL_isTrap_113 : decode cL_isTrap 113 = .ok (.laload, 1) := by decide +kernel
theorem dL_isTrap_114 : decode cL_isTrap 114 = .ok (.aload_n 1, 1) := by decide +kernel
theorem dL_isTrap_115 : decode cL_isTrap 115 = .ok (.iload 5, 2) := by decide +kernel
theorem dL_isTrap_117 : decode cL_isTrap 117 = .ok (.iconst 3, 1) := by decide +kernel
theorem dL_isTrap_118 : decode cL_isTrap 118 = .ok (.iadd, 1) := by decide +kernel
theorem dL_isTrap_119 : decode cL_isTrap 119 = .ok (.laload, 1) := by decide +kernel
theorem dL_isTrap_120 : decode cL_isTrap 120 = .ok (.lcmp, 1) := by decide +kernel
theorem dL_isTrap_121 : decode cL_isTrap 121 = .ok (.ifCond .ne 23, 3) := by decide +kernel
theorem dL_isTrap_124 : decode cL_isTrap 124 = .ok (.aload_n 1, 1) := by decide +kernel
theorem dL_isTrap_125 : decode cL_isTrap 125 = .ok (.iload 5, 2) := by decide +kernel
theorem dL_isTrap_127 : decode cL_isTrap 127 = .ok (.iconst 1, 1) := by decide +kernel
theorem dL_isTrap_128 : decode cL_isTrap 128 = .ok (.iadd, 1) := by decide +kernel
theorem dL_isTrap_129 : decode cL_isTrap 129 = .ok (.laload, 1) := by decide +kernel
theorem dL_isTrap_130 : decode cL_isTrap 130 = .ok (.aload_n 1, 1) := by decide +kernel
theorem dL_isTrap_131 : decode cL_isTrap 131 = .ok (.iload 5, 2) := by decide +kernel
theorem dL_isTrap_133 : decode cL_isTrap 133 = .ok (.iconst 5, 1) := by decide +kernel
theorem dL_isTrap_134 : decode cL_isTrap 134 = .ok (.iadd, 1) := by decide +kernel
theorem dL_isTrap_135 : decode cL_isTrap 135 = .ok (.laload, 1) := by decide +kernel
theorem dL_isTrap_136 : decode cL_isTrap 136 = .ok (.lcmp, 1) := by decide +kernel
theorem dL_isTrap_137 : decode cL_isTrap 137 = .ok (.ifCond .ne 7, 3) := by decide +kernel
theorem dL_isTrap_140 : decode cL_isTrap 140 = .ok (.iconst 1, 1) := by decide +kernel
theorem dL_isTrap_141 : decode cL_isTrap 141 = .ok (.goto 4, 3) := by decide +kernel
theorem dL_isTrap_144 : decode cL_isTrap 144 = .ok (.iconst 0, 1) := by decide +kernel
theorem dL_isTrap_145 : decode cL_isTrap 145 = .ok (.istore 4, 2) := by decide +kernel
theorem dL_isTrap_147 : decode cL_isTrap 147 = .ok (.iinc 5 1, 3) := by decide +kernel
theorem dL_isTrap_150 : decode cL_isTrap 150 = .ok (.goto (-137), 3) := by decide +kernel
theorem dL_isTrap_153 : decode cL_isTrap 153 = .ok (.iload 4, 2) := by decide +kernel
theorem dL_isTrap_155 : decode cL_isTrap 155 = .ok (.ireturn, 1) := by decide +kernel
theorem dL_left_0 : decode cL_left 0 = .ok (.aload_n 0, 1) := by decide +kernel
theorem dL_left_1 : decode cL_left 1 = .ok (.iconst 5, 1) := by decide +kernel
theorem dL_left_2 : decode cL_left 2 = .ok (.iaload, 1) := by decide +kernel
theorem dL_left_3 : decode cL_left 3 = .ok (.aload_n 0, 1) := by decide +kernel
theorem dL_left_4 : decode cL_left 4 = .ok (.iconst 0, 1) := by decide +kernel
theorem dL_left_5 : decode cL_left 5 = .ok (.iaload, 1) := by decide +kernel
theorem dL_left_6 : decode cL_left 6 = .ok (.bipush 100, 2) := by decide +kernel
theorem dL_left_8 : decode cL_left 8 = .ok (.idiv, 1) := by decide +kernel
theorem dL_left_9 : decode cL_left 9 = .ok (.if_icmp .ne 9, 3) := by decide +kernel
theorem dL_left_12 : decode cL_left 12 = .ok (.aload_n 0, 1) := by decide +kernel
theorem dL_left_13 : decode cL_left 13 = .ok (.iconst 4, 1) := by decide +kernel
theorem dL_left_14 : decode cL_left 14 = .ok (.iaload, 1) := by decide +kernel
theorem dL_left_15 : decode cL_left 15 = .ok (.goto 4, 3) := by decide +kernel
theorem dL_left_18 : decode cL_left 18 = .ok (.iconst 0, 1) := by decide +kernel
theorem dL_left_19 : decode cL_left 19 = .ok (.istore_n 1, 1) := by decide +kernel
theorem dL_left_20 : decode cL_left 20 = .ok (.iload_n 1, 1) := by decide +kernel
theorem dL_left_21 : decode cL_left 21 = .ok (.aload_n 0, 1) := by decide +kernel
theorem dL_left_22 : decode cL_left 22 = .ok (.iconst 3, 1) := by decide +kernel
theorem dL_left_23 : decode cL_left 23 = .ok (.iaload, 1) := by decide +kernel
theorem dL_left_24 : decode cL_left 24 = .ok (.if_icmp .le 7, 3) := by decide +kernel
theorem dL_left_27 : decode cL_left 27 = .ok (.iconst 0, 1) := by decide +kernel
theorem dL_left_28 : decode cL_left 28 = .ok (.goto 8, 3) := by decide +kernel
theorem dL_left_31 : decode cL_left 31 = .ok (.aload_n 0, 1) := by decide +kernel
theorem dL_left_32 : decode cL_left 32 = .ok (.iconst 3, 1) := by decide +kernel
theorem dL_left_33 : decode cL_left 33 = .ok (.iaload, 1) := by decide +kernel
theorem dL_left_34 : decode cL_left 34 = .ok (.iload_n 1, 1) := by decide +kernel
theorem dL_left_35 : decode cL_left 35 = .ok (.isub, 1) := by decide +kernel
theorem dL_left_36 : decode cL_left 36 = .ok (.ireturn, 1) := by decide +kernel
set_option maxRecDepth 20000 in
theorem ggL_may_L_left : GoodIn wsL_may wsL_left := goodIn_r _ [4] (by decide +kernel) (by decide +kernel)
set_option maxRecDepth 20000 in
theorem gL_may_L_left : GoodIn wsL_may (va_wsS RL 26 yL_left wsL_left) := goodIn_app (goodIn_of _ (by decide +kernel)) ggL_may_L_left
theorem dL_may_0 : decode cL_may 0 = .ok (.aload_n 1, 1) := by decide +kernel
theorem dL_may_1 : decode cL_may 1 = .ok (.bipush 6, 2) := by decide +kernel
theorem dL_may_3 : decode cL_may 3 = .ok (.iload_n 0, 1) := by decide +kernel
theorem dL_may_4 : decode cL_may 4 = .ok (.imul, 1) := by decide +kernel
theorem dL_may_5 : decode cL_may 5 = .ok (.iconst 5, 1) := by decide +kernel
theorem dL_may_6 : decode cL_may 6 = .ok (.iadd, 1) := by decide +kernel
theorem dL_may_7 : decode cL_may 7 = .ok (.iaload, 1) := by decide +kernel
theorem dL_may_8 : decode cL_may 8 = .ok (.ifCond .ne 46, 3) := by decide +kernel
theorem dL_may_11 : decode cL_may 11 = .ok (.aload_n 1, 1) := by decide +kernel
theorem dL_may_12 : decode cL_may 12 = .ok (.bipush 6, 2) := by decide +kernel
theorem dL_may_14 : decode cL_may 14 = .ok (.iload_n 0, 1) := by decide +kernel
theorem dL_may_15 : decode cL_may 15 = .ok (.imul, 1) := by decide +kernel
theorem dL_may_16 : decode cL_may 16 = .ok (.iconst 2, 1) := by decide +kernel
theorem dL_may_17 : decode cL_may 17 = .ok (.iadd, 1) := by decide +kernel
theorem dL_may_18 : decode cL_may 18 = .ok (.iaload, 1) := by decide +kernel
theorem dL_may_19 : decode cL_may 19 = .ok (.aload_n 3, 1) := by decide +kernel
theorem dL_may_20 : decode cL_may 20 = .ok (.iconst 0, 1) := by decide +kernel
theorem dL_may_21 : decode cL_may 21 = .ok (.iaload, 1) := by decide +kernel
theorem dL_may_22 : decode cL_may 22 = .ok (.if_icmp .gt 32, 3) := by decide +kernel
theorem dL_may_25 : decode cL_may 25 = .ok (.aload_n 2, 1) := by decide +kernel
theorem dL_may_26 : decode cL_may 26 = .ok (.iconst 3, 1) := by decide +kernel
theorem dL_may_27 : decode cL_may 27 = .ok (.aload_n 1, 1) := by decide +kernel
theorem dL_may_28 : decode cL_may 28 = .ok (.bipush 6, 2) := by decide +kernel
theorem dL_may_30 : decode cL_may 30 = .ok (.iload_n 0, 1) := by decide +kernel
theorem dL_may_31 : decode cL_may 31 = .ok (.imul, 1) := by decide +kernel
theorem dL_may_32 : decode cL_may 32 = .ok (.iaload, 1) := by decide +kernel
theorem dL_may_33 : decode cL_may 33 = .ok (.imul, 1) := by decide +kernel
theorem dL_may_34 : decode cL_may 34 = .ok (.iconst 2, 1) := by decide +kernel
theorem dL_may_35 : decode cL_may 35 = .ok (.iadd, 1) := by decide +kernel
theorem dL_may_36 : decode cL_may 36 = .ok (.iaload, 1) := by decide +kernel
theorem dL_may_37 : decode cL_may 37 = .ok (.aload_n 3, 1) := by decide +kernel
theorem dL_may_38 : decode cL_may 38 = .ok (.iconst 0, 1) := by decide +kernel
theorem dL_may_39 : decode cL_may 39 = .ok (.iaload, 1) := by decide +kernel
theorem dL_may_40 : decode cL_may 40 = .ok (.if_icmp .gt 14, 3) := by decide +kernel
theorem dL_may_43 : decode cL_may 43 = .ok (.aload_n 3, 1) := by decide +kernel
theorem dL_may_44 : decode cL_may 44 = .ok (.invokestatic 26, 3) := by decide +kernel
theorem dL_may_47 : decode cL_may 47 = .ok (.ifCond .le 7, 3) := by decide +kernel
theorem dL_may_50 : decode cL_may 50 = .ok (.iconst 1, 1) := by decide +kernel
theorem dL_may_51 : decode cL_may 51 = .ok (.goto 4, 3) := by decide +kernel
theorem dL_may_54 : decode cL_may 54 = .ok (.iconst 0, 1) := by decide +kernel
theorem dL_may_55 : decode cL_may 55 = .ok (.ireturn, 1) := by decide +kernel
set_option maxRecDepth 20000 in
theorem ggL_next_L_may : GoodIn wsL_next wsL_may := goodIn_r _ [4, 5, 6, 3, 7] (by decide +kernel) (by decide +kernel)
set_option maxRecDepth 20000 in
theorem gL_next_L_may : GoodIn wsL_next (va_wsS RL 30 yL_may wsL_may) := goodIn_app (goodIn_of _ (by decide +kernel)) ggL_next_L_may
theorem dL_next_0 : decode cL_next 0 = .ok (.iconst (-1), 1) := by decide +kernel
theorem dL_next_1 : decode cL_next 1 = .ok (.istore_n 3, 1) := by decide +kernel
theorem dL_next_2 : decode cL_next 2 = .ok (.aload_n 2, 1) := by decide +kernel
theorem dL_next_3 : decode cL_next 3 = .ok (.bipush 6, 2) := by decide +kernel
theorem dL_next_5 : decode cL_next 5 = .ok (.iaload, 1) := by decide +kernel
theorem dL_next_6 : decode cL_next 6 = .ok (.iconst 1, 1) := by decide +kernel
theorem dL_next_7 : decode cL_next 7 = .ok (.isub, 1) := by decide +kernel
theorem dL_next_8 : decode cL_next 8 = .ok (.istore 4, 2) := by decide +kernel
theorem dL_next_10 : decode cL_next 10 = .ok (.iload 4, 2) := by decide +kernel
theorem dL_next_12 : decode cL_next 12 = .ok (.ifCond .lt 123, 3) := by decide +kernel
theorem dL_next_15 : decode cL_next 15 = .ok (.iload_n 3, 1) := by decide +kernel
theorem dL_next_16 : decode cL_next 16 = .ok (.ifCond .ge 7, 3) := by decide +kernel
theorem dL_next_19 : decode cL_next 19 = .ok (.iconst 0, 1) := by decide +kernel
theorem dL_next_20 : decode cL_next 20 = .ok (.goto 43, 3) := by decide +kernel
theorem dL_next_23 : decode cL_next 23 = .ok (.bipush 10, 2) := by decide +kernel
theorem dL_next_25 : decode cL_next 25 = .ok (.aload_n 0, 1) := by decide +kernel
theorem dL_next_26 : decode cL_next 26 = .ok (.bipush 6, 2) := by decide +kernel
theorem dL_next_28 : decode cL_next 28 = .ok (.iload 4, 2) := by decide +kernel
theorem dL_next_30 : decode cL_next 30 = .ok (.imul, 1) := by decide +kernel
theorem dL_next_31 : decode cL_next 31 = .ok (.iconst 1, 1) := by decide +kernel
theorem dL_next_32 : decode cL_next 32 = .ok (.iadd, 1) := by decide +kernel
theorem dL_next_33 : decode cL_next 33 = .ok (.iaload, 1) := by decide +kernel
theorem dL_next_34 : decode cL_next 34 = .ok (.aload_n 0, 1) := by decide +kernel
theorem dL_next_35 : decode cL_next 35 = .ok (.bipush 6, 2) := by decide +kernel
theorem dL_next_37 : decode cL_next 37 = .ok (.iload_n 3, 1) := by decide +kernel
theorem dL_next_38 : decode cL_next 38 = .ok (.imul, 1) := by decide +kernel
theorem dL_next_39 : decode cL_next 39 = .ok (.iconst 1, 1) := by decide +kernel
theorem dL_next_40 : decode cL_next 40 = .ok (.iadd, 1) := by decide +kernel
theorem dL_next_41 : decode cL_next 41 = .ok (.iaload, 1) := by decide +kernel
theorem dL_next_42 : decode cL_next 42 = .ok (.isub, 1) := by decide +kernel
theorem dL_next_43 : decode cL_next 43 = .ok (.imul, 1) := by decide +kernel
theorem dL_next_44 : decode cL_next 44 = .ok (.aload_n 0, 1) := by decide +kernel
theorem dL_next_45 : decode cL_next 45 = .ok (.bipush 6, 2) := by decide +kernel
theorem dL_next_47 : decode cL_next 47 = .ok (.iload_n 3, 1) := by decide +kernel
theorem dL_next_48 : decode cL_next 48 = .ok (.imul, 1) := by decide +kernel
theorem dL_next_49 : decode cL_next 49 = .ok (.iconst 2, 1) := by decide +kernel
theorem dL_next_50 : decode cL_next 50 = .ok (.iadd, 1) := by decide +kernel
theorem dL_next_51 : decode cL_next 51 = .ok (.iaload, 1) := by decide +kernel
theorem dL_next_52 : decode cL_next 52 = .ok (.iadd, 1) := by decide +kernel
theorem dL_next_53 : decode cL_next 53 = .ok (.aload_n 0, 1) := by decide +kernel
theorem dL_next_54 : decode cL_next 54 = .ok (.bipush 6, 2) := by decide +kernel
theorem dL_next_56 : decode cL_next 56 = .ok (.iload 4, 2) := by decide +kernel
theorem dL_next_58 : decode cL_next 58 = .ok (.imul, 1) := by decide +kernel
theorem dL_next_59 : decode cL_next 59 = .ok (.iconst 2, 1) := by decide +kernel
theorem dL_next_60 : decode cL_next 60 = .ok (.iadd, 1) := by decide +kernel
theorem dL_next_61 : decode cL_next 61 = .ok (.iaload, 1) := by decide +kernel
theorem dL_next_62 : decode cL_next 62 = .ok (.isub, 1) := by decide +kernel
theorem dL_next_63 : decode cL_next 63 = .ok (.istore 5, 2) := by decide +kernel
theorem dL_next_65 : decode cL_next 65 = .ok (.iload_n 3, 1) := by decide +kernel
theorem dL_next_66 : decode cL_next 66 = .ok (.ifCond .lt 33, 3) := by decide +kernel
theorem dL_next_69 : decode cL_next 69 = .ok (.iload 5, 2) := by decide +kernel
theorem dL_next_71 : decode cL_next 71 = .ok (.ifCond .gt 28, 3) := by decide +kernel
theorem dL_next_74 : decode cL_next 74 = .ok (.iload 5, 2) := by decide +kernel
theorem dL_next_76 : decode cL_next 76 = .ok (.ifCond .ne 27, 3) := by decide +kernel
theorem dL_next_79 : decode cL_next 79 = .ok (.aload_n 0, 1) := by decide +kernel
theorem dL_next_80 : decode cL_next 80 = .ok (.bipush 6, 2) := by decide +kernel
theorem dL_next_82 : decode cL_next 82 = .ok (.iload 4, 2) := by decide +kernel
theorem dL_next_84 : decode cL_next 84 = .ok (.imul, 1) := by decide +kernel
theorem dL_next_85 : decode cL_next 85 = .ok (.iconst 1, 1) := by decide +kernel
theorem dL_next_86 : decode cL_next 86 = .ok (.iadd, 1) := by decide +kernel
theorem dL_next_87 : decode cL_next 87 = .ok (.iaload, 1) := by decide +kernel
theorem dL_next_88 : decode cL_next 88 = .ok (.aload_n 0, 1) := by decide +kernel
theorem dL_next_89 : decode cL_next 89 = .ok (.bipush 6, 2) := by decide +kernel
theorem dL_next_91 : decode cL_next 91 = .ok (.iload_n 3, 1) := by decide +kernel
theorem dL_next_92 : decode cL_next 92 = .ok (.imul, 1) := by decide +kernel
theorem dL_next_93 : decode cL_next 93 = .ok (.iconst 1, 1) := by decide +kernel
theorem dL_next_94 : decode cL_next 94 = .ok (.iadd, 1) := by decide +kernel
theorem dL_next_95 : decode cL_next 95 = .ok (.iaload, 1) := by decide +kernel
theorem dL_next_96 : decode cL_next 96 = .ok (.if_icmp .lt 7, 3) := by decide +kernel
theorem dL_next_99 : decode cL_next 99 = .ok (.iconst 1, 1) := by decide +kernel
theorem dL_next_100 : decode cL_next 100 = .ok (.goto 4, 3) := by decide +kernel
theorem dL_next_103 : decode cL_next 103 = .ok (.iconst 0, 1) := by decide +kernel
theorem dL_next_104 : decode cL_next 104 = .ok (.istore 6, 2) := by decide +kernel
theorem dL_next_106 : decode cL_next 106 = .ok (.iload 4, 2) := by decide +kernel
theorem dL_next_108 : decode cL_next 108 = .ok (.aload_n 0, 1) := by decide +kernel
theorem dL_next_109 : decode cL_next 109 = .ok (.aload_n 1, 1) := by decide +kernel
theorem dL_next_110 : decode cL_next 110 = .ok (.aload_n 2, 1) := by decide +kernel
theorem dL_next_111 : decode cL_next 111 = .ok (.invokestatic 30, 3) := by decide +kernel
theorem dL_next_114 : decode cL_next 114 = .ok (.ifCond .eq 13, 3) := by decide +kernel
theorem dL_next_117 : decode cL_next 117 = .ok (.iload 6, 2) := by decide +kernel
theorem dL_next_119 : decode cL_next 119 = .ok (.ifCond .eq 8, 3) := by decide +kernel
theorem dL_next_122 : decode cL_next 122 = .ok (.iload 4, 2) := by decide +kernel
theorem dL_next_124 : decode cL_next 124 = .ok (.goto 4, 3) := by decide +kernel
theorem dL_next_127 : decode cL_next 127 = .ok (.iload_n 3, 1) := by decide +kernel
theorem dL_next_128 : decode cL_next 128 = .ok (.istore_n 3, 1) := by decide +kernel
theorem dL_next_129 : decode cL_next 129 = .ok (.iinc 4 (-1), 3) := by decide +kernel
theorem dL_next_132 : decode cL_next 132 = .ok (.goto (-122), 3) := by decide +kernel
theorem dL_next_135 : decode cL_next 135 = .ok (.iload_n 3, 1) := by decide +kernel
theorem dL_next_136 : decode cL_next 136 = .ok (.ireturn, 1) := by decide +kernel
set_option maxRecDepth 20000 in
theorem ggL_waiting_L_left : GoodIn wsL_waiting wsL_left := goodIn_r _ [4] (by decide +kernel) (by decide +kernel)
set_option maxRecDepth 20000 in
theorem gL_waiting_L_left : GoodIn wsL_waiting (va_wsS RL 26 yL_left wsL_left) := goodIn_app (goodIn_of _ (by decide +kernel)) ggL_waiting_L_left
theorem dL_waiting_0 : decode cL_waiting 0 = .ok (.iconst (-1), 1) := by decide +kernel
theorem dL_waiting_1 : decode cL_waiting 1 = .ok (.istore_n 3, 1) := by decide +kernel
theorem dL_waiting_2 : decode cL_waiting 2 = .ok (.iconst 0, 1) := by decide +kernel
theorem dL_waiting_3 : decode cL_waiting 3 = .ok (.istore 4, 2) := by decide +kernel
theorem dL_waiting_5 : decode cL_waiting 5 = .ok (.iload 4, 2) := by decide +kernel
theorem dL_waiting_7 : decode cL_waiting 7 = .ok (.aload_n 2, 1) := by decide +kernel
theorem dL_waiting_8 : decode cL_waiting 8 = .ok (.bipush 6, 2) := by decide +kernel
theorem dL_waiting_10 : decode cL_waiting 10 = .ok (.iaload, 1) := by decide +kernel
theorem dL_waiting_11 : decode cL_waiting 11 = .ok (.if_icmp .ge 135, 3) := by decide +kernel
theorem dL_waiting_14 : decode cL_waiting 14 = .ok (.aload_n 0, 1) := by decide +kernel
theorem dL_waiting_15 : decode cL_waiting 15 = .ok (.bipush 6, 2) := by decide +kernel
theorem dL_waiting_17 : decode cL_waiting 17 = .ok (.iload 4, 2) := by decide +kernel
theorem dL_waiting_19 : decode cL_waiting 19 = .ok (.imul, 1) := by decide +kernel
theorem dL_waiting_20 : decode cL_waiting 20 = .ok (.iconst 5, 1) := by decide +kernel
theorem dL_waiting_21 : decode cL_waiting 21 = .ok (.iadd, 1) := by decide +kernel
theorem dL_waiting_22 : decode cL_waiting 22 = .ok (.iaload, 1) := by decide +kernel
theorem dL_waiting_23 : decode cL_waiting 23 = .ok (.ifCond .ne 117, 3) := by decide +kernel
theorem dL_waiting_26 : decode cL_waiting 26 = .ok (.aload_n 0, 1) := by decide +kernel
theorem dL_waiting_27 : decode cL_waiting 27 = .ok (.bipush 6, 2) := by decide +kernel
theorem dL_waiting_29 : decode cL_waiting 29 = .ok (.iload 4, 2) := by decide +kernel
theorem dL_waiting_31 : decode cL_waiting 31 = .ok (.imul, 1) := by decide +kernel
theorem dL_waiting_32 : decode cL_waiting 32 = .ok (.iconst 2, 1) := by decide +kernel
theorem dL_waiting_33 : decode cL_waiting 33 = .ok (.iadd, 1) := by decide +kernel
theorem dL_waiting_34 : decode cL_waiting 34 = .ok (.iaload, 1) := by decide +kernel
theorem dL_waiting_35 : decode cL_waiting 35 = .ok (.aload_n 2, 1) := by decide +kernel
theorem dL_waiting_36 : decode cL_waiting 36 = .ok (.iconst 0, 1) := by decide +kernel
theorem dL_waiting_37 : decode cL_waiting 37 = .ok (.iaload, 1) := by decide +kernel
theorem dL_waiting_38 : decode cL_waiting 38 = .ok (.isub, 1) := by decide +kernel
theorem dL_waiting_39 : decode cL_waiting 39 = .ok (.istore 5, 2) := by decide +kernel
theorem dL_waiting_41 : decode cL_waiting 41 = .ok (.aload_n 1, 1) := by decide +kernel
theorem dL_waiting_42 : decode cL_waiting 42 = .ok (.iconst 3, 1) := by decide +kernel
theorem dL_waiting_43 : decode cL_waiting 43 = .ok (.aload_n 0, 1) := by decide +kernel
theorem dL_waiting_44 : decode cL_waiting 44 = .ok (.bipush 6, 2) := by decide +kernel
theorem dL_waiting_46 : decode cL_waiting 46 = .ok (.iload 4, 2) := by decide +kernel
theorem dL_waiting_48 : decode cL_waiting 48 = .ok (.imul, 1) := by decide +kernel
theorem dL_waiting_49 : decode cL_waiting 49 = .ok (.iaload, 1) := by decide +kernel
theorem dL_waiting_50 : decode cL_waiting 50 = .ok (.imul, 1) := by decide +kernel
theorem dL_waiting_51 : decode cL_waiting 51 = .ok (.iconst 2, 1) := by decide +kernel
theorem dL_waiting_52 : decode cL_waiting 52 = .ok (.iadd, 1) := by decide +kernel
theorem dL_waiting_53 : decode cL_waiting 53 = .ok (.iaload, 1) := by decide +kernel
theorem dL_waiting_54 : decode cL_waiting 54 = .ok (.aload_n 2, 1) := by decide +kernel
theorem dL_waiting_55 : decode cL_waiting 55 = .ok (.iconst 0, 1) := by decide +kernel
theorem dL_waiting_56 : decode cL_waiting 56 = .ok (.iaload, 1) := by decide +kernel
theorem dL_waiting_57 : decode cL_waiting 57 = .ok (.isub, 1) := by decide +kernel
theorem dL_waiting_58 : decode cL_waiting 58 = .ok (.istore 6, 2) := by decide +kernel
theorem dL_waiting_60 : decode cL_waiting 60 = .ok (.iload 6, 2) := by decide +kernel
theorem dL_waiting_62 : decode cL_waiting 62 = .ok (.iload 5, 2) := by decide +kernel
theorem dL_waiting_64 : decode cL_waiting 64 = .ok (.if_icmp .le 8, 3) := by decide +kernel
theorem dL_waiting_67 : decode cL_waiting 67 = .ok (.iload 6, 2) := by decide +kernel
theorem dL_waiting_69 : decode cL_waiting 69 = .ok (.goto 5, 3) := by decide +kernel
theorem dL_waiting_72 : decode cL_waiting 72 = .ok (.iload 5, 2) := by decide +kernel
theorem dL_waiting_74 : decode cL_waiting 74 = .ok (.istore 5, 2) := by decide +kernel
theorem dL_waiting_76 : decode cL_waiting 76 = .ok (.iload 5, 2) := by decide +kernel
theorem dL_waiting_78 : decode cL_waiting 78 = .ok (.ifCond .ge 7, 3) := by decide +kernel
theorem dL_waiting_81 : decode cL_waiting 81 = .ok (.iconst 0, 1) := by decide +kernel
theorem dL_waiting_82 : decode cL_waiting 82 = .ok (.goto 5, 3) := by decide +kernel
theorem dL_waiting_85 : decode cL_waiting 85 = .ok (.iload 5, 2) := by decide +kernel
theorem dL_waiting_87 : decode cL_waiting 87 = .ok (.istore 5, 2) := by decide +kernel
theorem dL_waiting_89 : decode cL_waiting 89 = .ok (.bipush 100, 2) := by decide +kernel
theorem dL_waiting_91 : decode cL_waiting 91 = .ok (.aload_n 2, 1) := by decide +kernel
theorem dL_waiting_92 : decode cL_waiting 92 = .ok (.iconst 0, 1) := by decide +kernel
theorem dL_waiting_93 : decode cL_waiting 93 = .ok (.iaload, 1) := by decide +kernel
theorem dL_waiting_94 : decode cL_waiting 94 = .ok (.bipush 100, 2) := by decide +kernel
theorem dL_waiting_96 : decode cL_waiting 96 = .ok (.irem, 1) := by decide +kernel
theorem dL_waiting_97 : decode cL_waiting 97 = .ok (.isub, 1) := by decide +kernel
theorem dL_waiting_98 : decode cL_waiting 98 = .ok (.istore 7, 2) := by decide +kernel
theorem dL_waiting_100 : decode cL_waiting 100 = .ok (.aload_n 2, 1) := by decide +kernel
theorem dL_waiting_101 : decode cL_waiting 101 = .ok (.invokestatic 26, 3) := by decide +kernel
theorem dL_waiting_104 : decode cL_waiting 104 = .ok (.ifCond .ne 15, 3) := by decide +kernel
theorem dL_waiting_107 : decode cL_waiting 107 = .ok (.iload 5, 2) := by decide +kernel
theorem dL_waiting_109 : decode cL_waiting 109 = .ok (.iload 7, 2) := by decide +kernel
theorem dL_waiting_111 : decode cL_waiting 111 = .ok (.if_icmp .ge 8, 3) := by decide +kernel
theorem dL_waiting_114 : decode cL_waiting 114 = .ok (.iload 7, 2) := by decide +kernel
theorem dL_waiting_116 : decode cL_waiting 116 = .ok (.goto 5, 3) := by decide +kernel
theorem dL_waiting_119 : decode cL_waiting 119 = .ok (.iload 5, 2) := by decide +kernel
theorem dL_waiting_121 : decode cL_waiting 121 = .ok (.istore 5, 2) := by decide +kernel
theorem dL_waiting_123 : decode cL_waiting 123 = .ok (.iload_n 3, 1) := by decide +kernel
theorem dL_waiting_124 : decode cL_waiting 124 = .ok (.ifCond .lt 9, 3) := by decide +kernel
theorem dL_waiting_127 : decode cL_waiting 127 = .ok (.iload 5, 2) := by decide +kernel
theorem dL_waiting_129 : decode cL_waiting 129 = .ok (.iload_n 3, 1) := by decide +kernel
theorem dL_waiting_130 : decode cL_waiting 130 = .ok (.if_icmp .ge 8, 3) := by decide +kernel
theorem dL_waiting_133 : decode cL_waiting 133 = .ok (.iload 5, 2) := by decide +kernel
theorem dL_waiting_135 : decode cL_waiting 135 = .ok (.goto 4, 3) := by decide +kernel
theorem dL_waiting_138 : decode cL_waiting 138 = .ok (.iload_n 3, 1) := by decide +kernel
theorem dL_waiting_139 : decode cL_waiting 139 = .ok (.istore_n 3, 1) := by decide +kernel
theorem dL_waiting_140 : decode cL_waiting 140 = .ok (.iinc 4 1, 3) := by decide +kernel
theorem dL_waiting_143 : decode cL_waiting 143 = .ok (.goto (-138), 3) := by decide +kernel
theorem dL_waiting_146 : decode cL_waiting 146 = .ok (.iload_n 3, 1) := by decide +kernel
theorem dL_waiting_147 : decode cL_waiting 147 = .ok (.ireturn, 1) := by decide +kernel
set_option maxRecDepth 20000 in
theorem ggL_visits_L_may : GoodIn wsL_visits wsL_may := goodIn_r _ [4, 5, 6, 3, 7] (by decide +kernel) (by decide +kernel)
set_option maxRecDepth 20000 in
theorem gL_visits_L_may : GoodIn wsL_visits (va_wsS RL 30 yL_may wsL_may) := goodIn_app (goodIn_of _ (by decide +kernel)) ggL_visits_L_may
theorem dL_visits_0 : decode cL_visits 0 = .ok (.iload_n 0, 1) := by decide +kernel
theorem dL_visits_1 : decode cL_visits 1 = .ok (.aload_n 2, 1) := by decide +kernel
theorem dL_visits_2 : decode cL_visits 2 = .ok (.aload_n 3, 1) := by decide +kernel
theorem dL_visits_3 : decode cL_visits 3 = .ok (.aload 4, 2) := by decide +kernel
theorem dL_visits_5 : decode cL_visits 5 = .ok (.invokestatic 30, 3) := by decide +kernel
theorem dL_visits_8 : decode cL_visits 8 = .ok (.ifCond .ne 6, 3) := by decide +kernel
theorem dL_visits_11 : decode cL_visits 11 = .ok (.bipush (-3), 2) := by decide +kernel
theorem dL_visits_13 : decode cL_visits 13 = .ok (.ireturn, 1) := by decide +kernel
theorem dL_visits_14 : decode cL_visits 14 = .ok (.iconst 3, 1) := by decide +kernel
theorem dL_visits_15 : decode cL_visits 15 = .ok (.aload_n 2, 1) := by decide +kernel
theorem dL_visits_16 : decode cL_visits 16 = .ok (.bipush 6, 2) := by decide +kernel
theorem dL_visits_18 : decode cL_visits 18 = .ok (.iload_n 0, 1) := by decide +kernel
theorem dL_visits_19 : decode cL_visits 19 = .ok (.imul, 1) := by decide +kernel
theorem dL_visits_20 : decode cL_visits 20 = .ok (.iaload, 1) := by decide +kernel
theorem dL_visits_21 : decode cL_visits 21 = .ok (.imul, 1) := by decide +kernel
theorem dL_visits_22 : decode cL_visits 22 = .ok (.istore 5, 2) := by decide +kernel
theorem dL_visits_24 : decode cL_visits 24 = .ok (.aload 4, 2) := by decide +kernel
theorem dL_visits_26 : decode cL_visits 26 = .ok (.iconst 4, 1) := by decide +kernel
theorem dL_visits_27 : decode cL_visits 27 = .ok (.aload 4, 2) := by decide +kernel
theorem dL_visits_29 : decode cL_visits 29 = .ok (.iconst 5, 1) := by decide +kernel
theorem dL_visits_30 : decode cL_visits 30 = .ok (.iaload, 1) := by decide +kernel
theorem dL_visits_31 : decode cL_visits 31 = .ok (.aload 4, 2) := by decide +kernel
theorem dL_visits_33 : decode cL_visits 33 = .ok (.iconst 0, 1) := by decide +kernel
theorem dL_visits_34 : decode cL_visits 34 = .ok (.iaload, 1) := by decide +kernel
theorem dL_visits_35 : decode cL_visits 35 = .ok (.bipush 100, 2) := by decide +kernel
theorem dL_visits_37 : decode cL_visits 37 = .ok (.idiv, 1) := by decide +kernel
theorem dL_visits_38 : decode cL_visits 38 = .ok (.if_icmp .ne 12, 3) := by decide +kernel
theorem dL_visits_41 : decode cL_visits 41 = .ok (.aload 4, 2) := by decide +kernel
theorem dL_visits_43 : decode cL_visits 43 = .ok (.iconst 4, 1) := by decide +kernel
theorem dL_visits_44 : decode cL_visits 44 = .ok (.iaload, 1) := by decide +kernel
theorem dL_visits_45 : decode cL_visits 45 = .ok (.iconst 1, 1) := by decide +kernel
theorem dL_visits_46 : decode cL_visits 46 = .ok (.iadd, 1) := by decide +kernel
theorem dL_visits_47 : decode cL_visits 47 = .ok (.goto 4, 3) := by decide +kernel
theorem dL_visits_50 : decode cL_visits 50 = .ok (.iconst 1, 1) := by decide +kernel
theorem dL_visits_51 : decode cL_visits 51 = .ok (.iastore, 1) := by decide +kernel
theorem dL_visits_52 : decode cL_visits 52 = .ok (.aload 4, 2) := by decide +kernel
theorem dL_visits_54 : decode cL_visits 54 = .ok (.iconst 5, 1) := by decide +kernel
theorem dL_visits_55 : decode cL_visits 55 = .ok (.aload 4, 2) := by decide +kernel
theorem dL_visits_57 : decode cL_visits 57 = .ok (.iconst 0, 1) := by decide +kernel
theorem dL_visits_58 : decode cL_visits 58 = .ok (.iaload, 1) := by decide +kernel
theorem dL_visits_59 : decode cL_visits 59 = .ok (.bipush 100, 2) := by decide +kernel
theorem dL_visits_61 : decode cL_visits 61 = .ok (.idiv, 1) := by decide +kernel
theorem dL_visits_62 : decode cL_visits 62 = .ok (.iastore, 1) := by decide +kernel
theorem dL_visits_63 : decode cL_visits 63 = .ok (.aload_n 3, 1) := by decide +kernel
theorem dL_visits_64 : decode cL_visits 64 = .ok (.iload 5, 2) := by decide +kernel
theorem dL_visits_66 : decode cL_visits 66 = .ok (.iconst 1, 1) := by decide +kernel
theorem dL_visits_67 : decode cL_visits 67 = .ok (.iadd, 1) := by decide +kernel
theorem dL_visits_68 : decode cL_visits 68 = .ok (.iload_n 1, 1) := by decide +kernel
theorem dL_visits_69 : decode cL_visits 69 = .ok (.iconst 2, 1) := by decide +kernel
theorem dL_visits_70 : decode cL_visits 70 = .ok (.if_icmp .ne 14, 3) := by decide +kernel
theorem dL_visits_73 : decode cL_visits 73 = .ok (.aload_n 3, 1) := by decide +kernel
theorem dL_visits_74 : decode cL_visits 74 = .ok (.iload 5, 2) := by decide +kernel
theorem dL_visits_76 : decode cL_visits 76 = .ok (.iconst 1, 1) := by decide +kernel
theorem dL_visits_77 : decode cL_visits 77 = .ok (.iadd, 1) := by decide +kernel
theorem dL_visits_78 : decode cL_visits 78 = .ok (.iaload, 1) := by decide +kernel
theorem dL_visits_79 : decode cL_visits 79 = .ok (.iconst 1, 1) := by decide +kernel
theorem dL_visits_80 : decode cL_visits 80 = .ok (.iadd, 1) := by decide +kernel
theorem dL_visits_81 : decode cL_visits 81 = .ok (.goto 4, 3) := by decide +kernel
theorem dL_visits_84 : decode cL_visits 84 = .ok (.iconst 0, 1) := by decide +kernel
theorem dL_visits_85 : decode cL_visits 85 = .ok (.iastore, 1) := by decide +kernel
theorem dL_visits_86 : decode cL_visits 86 = .ok (.iload_n 1, 1) := by decide +kernel
theorem dL_visits_87 : decode cL_visits 87 = .ok (.iconst 2, 1) := by decide +kernel
theorem dL_visits_88 : decode cL_visits 88 = .ok (.if_icmp .ge 115, 3) := by decide +kernel
theorem dL_visits_91 : decode cL_visits 91 = .ok (.aload_n 2, 1) := by decide +kernel
theorem dL_visits_92 : decode cL_visits 92 = .ok (.bipush 6, 2) := by decide +kernel
theorem dL_visits_94 : decode cL_visits 94 = .ok (.iload_n 0, 1) := by decide +kernel
theorem dL_visits_95 : decode cL_visits 95 = .ok (.imul, 1) := by decide +kernel
theorem dL_visits_96 : decode cL_visits 96 = .ok (.iconst 3, 1) := by decide +kernel
theorem dL_visits_97 : decode cL_visits 97 = .ok (.iadd, 1) := by decide +kernel
theorem dL_visits_98 : decode cL_visits 98 = .ok (.dup2, 1) := by decide +kernel
theorem dL_visits_99 : decode cL_visits 99 = .ok (.iaload, 1) := by decide +kernel
theorem dL_visits_100 : decode cL_visits 100 = .ok (.iconst 1, 1) := by decide +kernel
theorem dL_visits_101 : decode cL_visits 101 = .ok (.iadd, 1) := by decide +kernel
theorem dL_visits_102 : decode cL_visits 102 = .ok (.iastore, 1) := by decide +kernel
theorem dL_visits_103 : decode cL_visits 103 = .ok (.aload_n 2, 1) := by decide +kernel
theorem dL_visits_104 : decode cL_visits 104 = .ok (.bipush 6, 2) := by decide +kernel
theorem dL_visits_106 : decode cL_visits 106 = .ok (.iload_n 0, 1) := by decide +kernel
theorem dL_visits_107 : decode cL_visits 107 = .ok (.imul, 1) := by decide +kernel
theorem dL_visits_108 : decode cL_visits 108 = .ok (.iconst 4, 1) := by decide +kernel
theorem dL_visits_109 : decode cL_visits 109 = .ok (.iadd, 1) := by decide +kernel
theorem dL_visits_110 : decode cL_visits 110 = .ok (.dup2, 1) := by decide +kernel
theorem dL_visits_111 : decode cL_visits 111 = .ok (.iaload, 1) := by decide +kernel
theorem dL_visits_112 : decode cL_visits 112 = .ok (.iload_n 1, 1) := by decide +kernel
theorem dL_visits_113 : decode cL_visits 113 = .ok (.iadd, 1) := by decide +kernel
theorem dL_visits_114 : decode cL_visits 114 = .ok (.iastore, 1) := by decide +kernel
theorem dL_visits_115 : decode cL_visits 115 = .ok (.aload 4, 2) := by decide +kernel
theorem dL_visits_117 : decode cL_visits 117 = .ok (.iconst 1, 1) := by decide +kernel
theorem dL_visits_118 : decode cL_visits 118 = .ok (.iaload, 1) := by decide +kernel
theorem dL_visits_119 : decode cL_visits 119 = .ok (.aload_n 2, 1) := by decide +kernel
theorem dL_visits_120 : decode cL_visits 120 = .ok (.bipush 6, 2) := by decide +kernel
theorem dL_visits_122 : decode cL_visits 122 = .ok (.iload_n 0, 1) := by decide +kernel
theorem dL_visits_123 : decode cL_visits 123 = .ok (.imul, 1) := by decide +kernel
theorem dL_visits_124 : decode cL_visits 124 = .ok (.iconst 3, 1) := by decide +kernel
theorem dL_visits_125 : decode cL_visits 125 = .ok (.iadd, 1) := by decide +kernel
theorem dL_visits_126 : decode cL_visits 126 = .ok (.iaload, 1) := by decide +kernel
theorem dL_visits_127 : decode cL_visits 127 = .ok (.iconst 2, 1) := by decide +kernel
theorem dL_visits_128 : decode cL_visits 128 = .ok (.iadd, 1) := by decide +kernel
theorem dL_visits_129 : decode cL_visits 129 = .ok (.imul, 1) := by decide +kernel
theorem dL_visits_130 : decode cL_visits 130 = .ok (.istore 6, 2) := by decide +kernel
theorem dL_visits_132 : decode cL_visits 132 = .ok (.iload 6, 2) := by decide +kernel
theorem dL_visits_134 : decode cL_visits 134 = .ok (.aload_n 2, 1) := by decide +kernel
theorem dL_visits_135 : decode cL_visits 135 = .ok (.bipush 6, 2) := by decide +kernel
theorem dL_visits_137 : decode cL_visits 137 = .ok (.iload_n 0, 1) := by decide +kernel
theorem dL_visits_138 : decode cL_visits 138 = .ok (.imul, 1) := by decide +kernel
theorem dL_visits_139 : decode cL_visits 139 = .ok (.iconst 4, 1) := by decide +kernel
theorem dL_visits_140 : decode cL_visits 140 = .ok (.iadd, 1) := by decide +kernel
theorem dL_visits_141 : decode cL_visits 141 = .ok (.iaload, 1) := by decide +kernel
theorem dL_visits_142 : decode cL_visits 142 = .ok (.iconst 1, 1) := by decide +kernel
theorem dL_visits_143 : decode cL_visits 143 = .ok (.iadd, 1) := by decide +kernel
theorem dL_visits_144 : decode cL_visits 144 = .ok (.idiv, 1) := by decide +kernel
theorem dL_visits_145 : decode cL_visits 145 = .ok (.iload 6, 2) := by decide +kernel
theorem dL_visits_147 : decode cL_visits 147 = .ok (.aload_n 2, 1) := by decide +kernel
theorem dL_visits_148 : decode cL_visits 148 = .ok (.bipush 6, 2) := by decide +kernel
theorem dL_visits_150 : decode cL_visits 150 = .ok (.iload_n 0, 1) := by decide +kernel
theorem dL_visits_151 : decode cL_visits 151 = .ok (.imul, 1) := by decide +kernel
theorem dL_visits_152 : decode cL_visits 152 = .ok (.iconst 4, 1) := by decide +kernel
theorem dL_visits_153 : decode cL_visits 153 = .ok (.iadd, 1) := by decide +kernel
theorem dL_visits_154 : decode cL_visits 154 = .ok (.iaload, 1) := by decide +kernel
theorem dL_visits_155 : decode cL_visits 155 = .ok (.iconst 1, 1) := by decide +kernel
theorem dL_visits_156 : decode cL_visits 156 = .ok (.iadd, 1) := by decide +kernel
theorem dL_visits_157 : decode cL_visits 157 = .ok (.irem, 1) := by decide +kernel
