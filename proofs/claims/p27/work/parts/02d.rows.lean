theorem dX3_setRank_0 : decode cX3_setRank 0 = .ok (.aload_n 0, 1) := by decide +kernel
theorem dX3_setRank_1 : decode cX3_setRank 1 = .ok (.iload_n 1, 1) := by decide +kernel
theorem dX3_setRank_2 : decode cX3_setRank 2 = .ok (.invokevirtual 117, 3) := by decide +kernel
theorem dX3_setRank_5 : decode cX3_setRank 5 = .ok (.astore_n 3, 1) := by decide +kernel
theorem dX3_setRank_6 : decode cX3_setRank 6 = .ok (.iload_n 2, 1) := by decide +kernel
theorem dX3_setRank_7 : decode cX3_setRank 7 = .ok (.invokestatic 92, 3) := by decide +kernel
theorem dX3_setRank_10 : decode cX3_setRank 10 = .ok (.aload_n 3, 1) := by decide +kernel
theorem dX3_setRank_11 : decode cX3_setRank 11 = .ok (.getfield 121, 3) := by decide +kernel
theorem dX3_setRank_14 : decode cX3_setRank 14 = .ok (.istore 4, 2) := by decide +kernel
theorem dX3_setRank_16 : decode cX3_setRank 16 = .ok (.aload_n 3, 1) := by decide +kernel
theorem dX3_setRank_17 : decode cX3_setRank 17 = .ok (.iload_n 2, 1) := by decide +kernel
theorem dX3_setRank_18 : decode cX3_setRank 18 = .ok (.putfield 121, 3) := by decide +kernel
theorem dX3_setRank_21 : decode cX3_setRank 21 = .ok (.iload 4, 2) := by decide +kernel
theorem dX3_setRank_23 : decode cX3_setRank 23 = .ok (.ireturn, 1) := by decide +kernel
theorem dX3_pages_0 : decode cX3_pages 0 = .ok (.aload_n 0, 1) := by decide +kernel
theorem dX3_pages_1 : decode cX3_pages 1 = .ok (.getfield 103, 3) := by decide +kernel
theorem dX3_pages_4 : decode cX3_pages 4 = .ok (.ireturn, 1) := by decide +kernel
set_option maxRecDepth 20000 in
theorem ggX3_dueAt_X3_knownPage : GoodIn wsX3_dueAt wsX3_knownPage := goodIn_ca (goodIn_r _ [6, 7, 8, 9, 27, 28, 29, 30, 31, 32, 33, 34, 35] (by decide +kernel) (by decide +kernel)) (goodIn_sub (fun _ h => List.mem_cons_of_mem _ (List.mem_append_right _ h)) (by decide +kernel))
set_option maxRecDepth 20000 in
theorem gX3_dueAt_X3_knownPage : GoodIn wsX3_dueAt (wsV RX3 117 RX3 yX3_knownPage wsX3_knownPage) := goodIn_app (goodIn_of _ (by decide +kernel)) ggX3_dueAt_X3_knownPage
set_option maxRecDepth 20000 in
theorem ggX3_dueAt_X2_isKept : GoodIn wsX3_dueAt wsX2_isKept := goodIn_r _ [14, 15, 16, 17, 18, 19, 20, 21, 22, 23, 24, 25, 26] (by decide +kernel) (by decide +kernel)
set_option maxRecDepth 20000 in
theorem gX3_dueAt_X2_isKept : GoodIn wsX3_dueAt (wsV RX3 124 RX2 yX2_isKept wsX2_isKept) := goodIn_app (goodIn_of _ (by decide +kernel)) ggX3_dueAt_X2_isKept
theorem dX3_dueAt_0 : decode cX3_dueAt 0 = .ok (.aload_n 0, 1) := by decide +kernel
theorem dX3_dueAt_1 : decode cX3_dueAt 1 = .ok (.iload_n 1, 1) := by decide +kernel
theorem dX3_dueAt_2 : decode cX3_dueAt 2 = .ok (.invokevirtual 117, 3) := by decide +kernel
theorem dX3_dueAt_5 : decode cX3_dueAt 5 = .ok (.astore_n 2, 1) := by decide +kernel
theorem dX3_dueAt_6 : decode cX3_dueAt 6 = .ok (.aload_n 2, 1) := by decide +kernel
theorem dX3_dueAt_7 : decode cX3_dueAt 7 = .ok (.invokevirtual 124, 3) := by decide +kernel
theorem dX3_dueAt_10 : decode cX3_dueAt 10 = .ok (.ifCond .eq 10, 3) := by decide +kernel
theorem dX3_dueAt_13 : decode cX3_dueAt 13 = .ok (.aload_n 2, 1) := by decide +kernel
theorem dX3_dueAt_14 : decode cX3_dueAt 14 = .ok (.getfield 127, 3) := by decide +kernel
theorem dX3_dueAt_17 : decode cX3_dueAt 17 = .ok (.goto 4, 3) := by decide +kernel
theorem dX3_dueAt_20 : decode cX3_dueAt 20 = .ok (.iconst (-1), 1) := by decide +kernel
theorem dX3_dueAt_21 : decode cX3_dueAt 21 = .ok (.ireturn, 1) := by decide +kernel
set_option maxRecDepth 20000 in
theorem ggX3_visits_X3_knownPage : GoodIn wsX3_visits wsX3_knownPage := goodIn_ca (goodIn_r _ [6, 7, 8, 9, 20, 21, 22, 23, 24, 25, 26, 27, 28] (by decide +kernel) (by decide +kernel)) (goodIn_sub (fun _ h => List.mem_cons_of_mem _ (List.mem_append_right _ h)) (by decide +kernel))
set_option maxRecDepth 20000 in
theorem gX3_visits_X3_knownPage : GoodIn wsX3_visits (wsV RX3 117 RX3 yX3_knownPage wsX3_knownPage) := goodIn_app (goodIn_of _ (by decide +kernel)) ggX3_visits_X3_knownPage
theorem dX3_visits_0 : decode cX3_visits 0 = .ok (.aload_n 0, 1) := by decide +kernel
theorem dX3_visits_1 : decode cX3_visits 1 = .ok (.iload_n 1, 1) := by decide +kernel
theorem dX3_visits_2 : decode cX3_visits 2 = .ok (.invokevirtual 117, 3) := by decide +kernel
theorem dX3_visits_5 : decode cX3_visits 5 = .ok (.getfield 130, 3) := by decide +kernel
theorem dX3_visits_8 : decode cX3_visits 8 = .ok (.ireturn, 1) := by decide +kernel
set_option maxRecDepth 20000 in
theorem ggX3_changes_X3_knownPage : GoodIn wsX3_changes wsX3_knownPage := goodIn_ca (goodIn_r _ [6, 7, 8, 9, 20, 21, 22, 23, 24, 25, 26, 27, 28] (by decide +kernel) (by decide +kernel)) (goodIn_sub (fun _ h => List.mem_cons_of_mem _ (List.mem_append_right _ h)) (by decide +kernel))
set_option maxRecDepth 20000 in
theorem gX3_changes_X3_knownPage : GoodIn wsX3_changes (wsV RX3 117 RX3 yX3_knownPage wsX3_knownPage) := goodIn_app (goodIn_of _ (by decide +kernel)) ggX3_changes_X3_knownPage
theorem dX3_changes_0 : decode cX3_changes 0 = .ok (.aload_n 0, 1) := by decide +kernel
theorem dX3_changes_1 : decode cX3_changes 1 = .ok (.iload_n 1, 1) := by decide +kernel
theorem dX3_changes_2 : decode cX3_changes 2 = .ok (.invokevirtual 117, 3) := by decide +kernel
theorem dX3_changes_5 : decode cX3_changes 5 = .ok (.getfield 133, 3) := by decide +kernel
theorem dX3_changes_8 : decode cX3_changes 8 = .ok (.ireturn, 1) := by decide +kernel
set_option maxRecDepth 20000 in
theorem ggX3_mayVisit_X3_knownPage : GoodIn wsX3_mayVisit wsX3_knownPage := goodIn_ca (goodIn_r _ [5, 6, 7, 8, 42, 43, 44, 45, 46, 47, 48, 49, 50] (by decide +kernel) (by decide +kernel)) (goodIn_sub (fun _ h => List.mem_cons_of_mem _ (List.mem_append_right _ h)) (by decide +kernel))
set_option maxRecDepth 20000 in
theorem gX3_mayVisit_X3_knownPage : GoodIn wsX3_mayVisit (wsV RX3 117 RX3 yX3_knownPage wsX3_knownPage) := goodIn_app (goodIn_of _ (by decide +kernel)) ggX3_mayVisit_X3_knownPage
set_option maxRecDepth 20000 in
theorem ggX3_mayVisit_X3_isReady : GoodIn wsX3_mayVisit wsX3_isReady := goodIn_r _ [12, 13, 14, 15, 16, 17, 18, 19, 20, 21, 22, 23, 4, 24, 25, 26, 27, 28, 29, 30, 31, 32, 33, 34, 35, 36, 37, 38, 39, 40, 41, 42, 43, 44, 45, 46, 47, 48, 49, 50, 51, 52, 53, 54, 55, 56, 57, 58, 59, 60, 61, 62, 63] (by decide +kernel) (by decide +kernel)
set_option maxRecDepth 20000 in
theorem gX3_mayVisit_X3_isReady : GoodIn wsX3_mayVisit (wsV RX3 136 RX3 yX3_isReady wsX3_isReady) := goodIn_app (goodIn_of _ (by decide +kernel)) ggX3_mayVisit_X3_isReady
theorem dX3_mayVisit_0 : decode cX3_mayVisit 0 = .ok (.aload_n 0, 1) := by decide +kernel
theorem dX3_mayVisit_1 : decode cX3_mayVisit 1 = .ok (.aload_n 0, 1) := by decide +kernel
theorem dX3_mayVisit_2 : decode cX3_mayVisit 2 = .ok (.iload_n 1, 1) := by decide +kernel
theorem dX3_mayVisit_3 : decode cX3_mayVisit 3 = .ok (.invokevirtual 117, 3) := by decide +kernel
theorem dX3_mayVisit_6 : decode cX3_mayVisit 6 = .ok (.invokevirtual 136, 3) := by decide +kernel
theorem dX3_mayVisit_9 : decode cX3_mayVisit 9 = .ok (.ireturn, 1) := by decide +kernel
set_option maxRecDepth 20000 in
theorem ggX3_next_X3_firstOfHost : GoodIn wsX3_next wsX3_firstOfHost := goodIn_r _ [6, 7, 8, 9, 10, 11, 5, 12, 13, 14, 15, 16, 17, 18, 19, 20, 21, 22, 23, 24, 25, 26, 27, 28, 29, 30, 31, 32, 33, 34, 35, 36, 37, 38, 39, 40, 41, 42, 43, 44, 45, 46, 47, 48, 49, 50, 51, 52, 53, 54, 55, 56, 60, 61, 62, 63, 64, 65, 66, 67, 68, 69, 70, 71, 72, 73, 74, 75, 76, 77, 78, 79, 80, 81] (by decide +kernel) (by decide +kernel)
set_option maxRecDepth 20000 in
theorem gX3_next_X3_firstOfHost : GoodIn wsX3_next (wsV RX3 140 RX3 yX3_firstOfHost wsX3_firstOfHost) := goodIn_app (goodIn_of _ (by decide +kernel)) ggX3_next_X3_firstOfHost
set_option maxRecDepth 20000 in
theorem ggX3_next_X3_earlier : GoodIn wsX3_next wsX3_earlier := goodIn_r _ [44, 45, 46, 47, 5, 48, 13, 49, 50, 51, 52, 53, 17, 54, 55, 56, 60, 61, 62, 63, 64, 65, 66, 67, 68, 69, 70, 71, 72, 73, 74, 75, 76, 77, 78] (by decide +kernel) (by decide +kernel)
set_option maxRecDepth 20000 in
theorem gX3_next_X3_earlier : GoodIn wsX3_next (wsV RX3 143 RX3 yX3_earlier wsX3_earlier) := goodIn_app (goodIn_of _ (by decide +kernel)) ggX3_next_X3_earlier
set_option maxRecDepth 20000 in
theorem ggX3_next_X3_numberOf : GoodIn wsX3_next wsX3_numberOf := goodIn_r _ [59, 50, 69, 70, 71, 72, 73, 74, 75, 76, 77, 78] (by decide +kernel) (by decide +kernel)
set_option maxRecDepth 20000 in
theorem gX3_next_X3_numberOf : GoodIn wsX3_next (va_wsS RX3 147 yX3_numberOf wsX3_numberOf) := goodIn_app (goodIn_of _ (by decide +kernel)) ggX3_next_X3_numberOf
theorem dX3_next_0 : decode cX3_next 0 = .ok (.aconst_null, 1) := by decide +kernel
theorem dX3_next_1 : decode cX3_next 1 = .ok (.astore_n 1, 1) := by decide +kernel
theorem dX3_next_2 : decode cX3_next 2 = .ok (.aload_n 0, 1) := by decide +kernel
theorem dX3_next_3 : decode cX3_next 3 = .ok (.getfield 18, 3) := by decide +kernel
theorem dX3_next_6 : decode cX3_next 6 = .ok (.astore_n 2, 1) := by decide +kernel
theorem dX3_next_7 : decode cX3_next 7 = .ok (.aload_n 2, 1) := by decide +kernel
theorem dX3_next_8 : decode cX3_next 8 = .ok (.arraylength, 1) := by decide +kernel
theorem dX3_next_9 : decode cX3_next 9 = .ok (.istore_n 3, 1) := by decide +kernel
theorem dX3_next_10 : decode cX3_next 10 = .ok (.iconst 0, 1) := by decide +kernel
theorem dX3_next_11 : decode cX3_next 11 = .ok (.istore 4, 2) := by decide +kernel
theorem dX3_next_13 : decode cX3_next 13 = .ok (.iload 4, 2) := by decide +kernel
theorem dX3_next_15 : decode cX3_next 15 = .ok (.iload_n 3, 1) := by decide +kernel
theorem dX3_next_16 : decode cX3_next 16 = .ok (.if_icmp .ge 27, 3) := by decide +kernel
theorem dX3_next_19 : decode cX3_next 19 = .ok (.aload_n 2, 1) := by decide +kernel
theorem dX3_next_20 : decode cX3_next 20 = .ok (.iload 4, 2) := by decide +kernel
theorem dX3_next_22 : decode cX3_next 22 = .ok (.aaload, 1) := by decide +kernel
theorem dX3_next_23 : decode cX3_next 23 = .ok (.astore 5, 2) := by decide +kernel
theorem dX3_next_25 : decode cX3_next 25 = .ok (.aload_n 0, 1) := by decide +kernel
theorem dX3_next_26 : decode cX3_next 26 = .ok (.aload_n 1, 1) := by decide +kernel
theorem dX3_next_27 : decode cX3_next 27 = .ok (.aload_n 0, 1) := by decide +kernel
theorem dX3_next_28 : decode cX3_next 28 = .ok (.aload 5, 2) := by decide +kernel
theorem dX3_next_30 : decode cX3_next 30 = .ok (.invokevirtual 140, 3) := by decide +kernel
theorem dX3_next_33 : decode cX3_next 33 = .ok (.invokevirtual 143, 3) := by decide +kernel
theorem dX3_next_36 : decode cX3_next 36 = .ok (.astore_n 1, 1) := by decide +kernel
theorem dX3_next_37 : decode cX3_next 37 = .ok (.iinc 4 1, 3) := by decide +kernel
theorem dX3_next_40 : decode cX3_next 40 = .ok (.goto (-27), 3) := by decide +kernel
theorem dX3_next_43 : decode cX3_next 43 = .ok (.aload_n 1, 1) := by decide +kernel
theorem dX3_next_44 : decode cX3_next 44 = .ok (.invokestatic 147, 3) := by decide +kernel
theorem dX3_next_47 : decode cX3_next 47 = .ok (.ireturn, 1) := by decide +kernel
set_option maxRecDepth 20000 in
theorem ggX3_nextByScan_X3_isReady : GoodIn wsX3_nextByScan wsX3_isReady := goodIn_r _ [6, 7, 8, 9, 10, 11, 12, 13, 14, 15, 16, 17, 5, 18, 19, 20, 21, 22, 23, 24, 25, 26, 27, 28, 29, 30, 31, 32, 33, 34, 35, 55, 56, 57, 58, 59, 60, 61, 62, 63, 64, 65, 66, 67, 68, 69, 70, 71, 72, 73, 74, 75, 76] (by decide +kernel) (by decide +kernel)
set_option maxRecDepth 20000 in
theorem gX3_nextByScan_X3_isReady : GoodIn wsX3_nextByScan (wsV RX3 136 RX3 yX3_isReady wsX3_isReady) := goodIn_app (goodIn_of _ (by decide +kernel)) ggX3_nextByScan_X3_isReady
set_option maxRecDepth 20000 in
theorem ggX3_nextByScan_X3_earlier : GoodIn wsX3_nextByScan wsX3_earlier := goodIn_r _ [39, 40, 41, 42, 5, 43, 7, 44, 45, 46, 47, 48, 11, 49, 50, 51, 55, 56, 57, 58, 59, 60, 61, 62, 63, 64, 65, 66, 67, 68, 69, 70, 71, 72, 73] (by decide +kernel) (by decide +kernel)
set_option maxRecDepth 20000 in
theorem gX3_nextByScan_X3_earlier : GoodIn wsX3_nextByScan (wsV RX3 143 RX3 yX3_earlier wsX3_earlier) := goodIn_app (goodIn_of _ (by decide +kernel)) ggX3_nextByScan_X3_earlier
set_option maxRecDepth 20000 in
theorem ggX3_nextByScan_X3_numberOf : GoodIn wsX3_nextByScan wsX3_numberOf := goodIn_r _ [54, 45, 64, 65, 66, 67, 68, 69, 70, 71, 72, 73] (by decide +kernel) (by decide +kernel)
set_option maxRecDepth 20000 in
theorem gX3_nextByScan_X3_numberOf : GoodIn wsX3_nextByScan (va_wsS RX3 147 yX3_numberOf wsX3_numberOf) := goodIn_app (goodIn_of _ (by decide +kernel)) ggX3_nextByScan_X3_numberOf
theorem dX3_nextByScan_0 : decode cX3_nextByScan 0 = .ok (.aconst_null, 1) := by decide +kernel
theorem dX3_nextByScan_1 : decode cX3_nextByScan 1 = .ok (.astore_n 1, 1) := by decide +kernel
theorem dX3_nextByScan_2 : decode cX3_nextByScan 2 = .ok (.aload_n 0, 1) := by decide +kernel
theorem dX3_nextByScan_3 : decode cX3_nextByScan 3 = .ok (.getfield 25, 3) := by decide +kernel
theorem dX3_nextByScan_6 : decode cX3_nextByScan 6 = .ok (.astore_n 2, 1) := by decide +kernel
theorem dX3_nextByScan_7 : decode cX3_nextByScan 7 = .ok (.aload_n 2, 1) := by decide +kernel
theorem dX3_nextByScan_8 : decode cX3_nextByScan 8 = .ok (.arraylength, 1) := by decide +kernel
theorem dX3_nextByScan_9 : decode cX3_nextByScan 9 = .ok (.istore_n 3, 1) := by decide +kernel
theorem dX3_nextByScan_10 : decode cX3_nextByScan 10 = .ok (.iconst 0, 1) := by decide +kernel
theorem dX3_nextByScan_11 : decode cX3_nextByScan 11 = .ok (.istore 4, 2) := by decide +kernel
theorem dX3_nextByScan_13 : decode cX3_nextByScan 13 = .ok (.iload 4, 2) := by decide +kernel
theorem dX3_nextByScan_15 : decode cX3_nextByScan 15 = .ok (.iload_n 3, 1) := by decide +kernel
theorem dX3_nextByScan_16 : decode cX3_nextByScan 16 = .ok (.if_icmp .ge 37, 3) := by decide +kernel
theorem dX3_nextByScan_19 : decode cX3_nextByScan 19 = .ok (.aload_n 2, 1) := by decide +kernel
theorem dX3_nextByScan_20 : decode cX3_nextByScan 20 = .ok (.iload 4, 2) := by decide +kernel
theorem dX3_nextByScan_22 : decode cX3_nextByScan 22 = .ok (.aaload, 1) := by decide +kernel
theorem dX3_nextByScan_23 : decode cX3_nextByScan 23 = .ok (.astore 5, 2) := by decide +kernel
theorem dX3_nextByScan_25 : decode cX3_nextByScan 25 = .ok (.aload 5, 2) := by decide +kernel
theorem dX3_nextByScan_27 : decode cX3_nextByScan 27 = .ok (.ifnull 20, 3) := by decide +kernel
theorem dX3_nextByScan_30 : decode cX3_nextByScan 30 = .ok (.aload_n 0, 1) := by decide +kernel
theorem dX3_nextByScan_31 : decode cX3_nextByScan 31 = .ok (.aload 5, 2) := by decide +kernel
theorem dX3_nextByScan_33 : decode cX3_nextByScan 33 = .ok (.invokevirtual 136, 3) := by decide +kernel
theorem dX3_nextByScan_36 : decode cX3_nextByScan 36 = .ok (.ifCond .eq 11, 3) := by decide +kernel
theorem dX3_nextByScan_39 : decode cX3_nextByScan 39 = .ok (.aload_n 0, 1) := by decide +kernel
theorem dX3_nextByScan_40 : decode cX3_nextByScan 40 = .ok (.aload_n 1, 1) := by decide +kernel
theorem dX3_nextByScan_41 : decode cX3_nextByScan 41 = .ok (.aload 5, 2) := by decide +kernel
theorem dX3_nextByScan_43 : decode cX3_nextByScan 43 = .ok (.invokevirtual 143, 3) := by decide +kernel
theorem dX3_nextByScan_46 : decode cX3_nextByScan 46 = .ok (.astore_n 1, 1) := by decide +kernel
theorem dX3_nextByScan_47 : decode cX3_nextByScan 47 = .ok (.iinc 4 1, 3) := by decide +kernel
theorem dX3_nextByScan_50 : decode cX3_nextByScan 50 = .ok (.goto (-37), 3) := by decide +kernel
theorem dX3_nextByScan_53 : decode cX3_nextByScan 53 = .ok (.aload_n 1, 1) := by decide +kernel
theorem dX3_nextByScan_54 : decode cX3_nextByScan 54 = .ok (.invokestatic 147, 3) := by decide +kernel
theorem dX3_nextByScan_57 : decode cX3_nextByScan 57 = .ok (.ireturn, 1) := by decide +kernel
set_option maxRecDepth 20000 in
theorem ggX3_visit_X3_knownPage : GoodIn wsX3_visit wsX3_knownPage := goodIn_ca (goodIn_r _ [13, 14, 15, 16, 75, 76, 77, 78, 79, 80, 81, 82, 83] (by decide +kernel) (by decide +kernel)) (goodIn_sub (fun _ h => List.mem_cons_of_mem _ (List.mem_append_right _ h)) (by decide +kernel))
set_option maxRecDepth 20000 in
theorem gX3_visit_X3_knownPage : GoodIn wsX3_visit (wsV RX3 117 RX3 yX3_knownPage wsX3_knownPage) := goodIn_app (goodIn_of _ (by decide +kernel)) ggX3_visit_X3_knownPage
set_option maxRecDepth 20000 in
theorem ggX3_visit_X3_isReady : GoodIn wsX3_visit wsX3_isReady := goodIn_r _ [20, 7, 21, 22, 23, 24, 25, 26, 27, 28, 29, 30, 12, 31, 32, 6, 8, 33, 34, 35, 36, 37, 38, 39, 40, 41, 5, 42, 43, 44, 45, 75, 76, 77, 78, 79, 80, 81, 82, 83, 84, 85, 86, 87, 88, 89, 90, 91, 92, 93, 94, 95, 96] (by decide +kernel) (by decide +kernel)
set_option maxRecDepth 20000 in
theorem gX3_visit_X3_isReady : GoodIn wsX3_visit (wsV RX3 136 RX3 yX3_isReady wsX3_isReady) := goodIn_app (goodIn_of _ (by decide +kernel)) ggX3_visit_X3_isReady
set_option maxRecDepth 20000 in
theorem ggX3_visit_X3_settle : GoodIn wsX3_visit wsX3_settle := goodIn_r _ [49, 6, 50, 7, 51, 32, 52, 53, 54, 55, 56, 57, 12, 58, 59, 60, 61, 35, 62, 63, 64, 65, 84, 85, 86, 87, 88, 89, 90, 91, 92, 93, 94, 95, 96, 75, 76, 77, 78, 79, 80, 81, 82, 83] (by decide +kernel) (by decide +kernel)
set_option maxRecDepth 20000 in
theorem gX3_visit_X3_settle : GoodIn wsX3_visit (wsV RX3 158 RX3 yX3_settle wsX3_settle) := goodIn_app (goodIn_of _ (by decide +kernel)) ggX3_visit_X3_settle
set_option maxRecDepth 20000 in
theorem ggX3_visit_X1_restFrom : GoodIn wsX3_visit wsX1_restFrom := goodIn_r _ [70, 71, 72, 73, 61, 35, 62, 74, 94, 95, 96] (by decide +kernel) (by decide +kernel)
set_option maxRecDepth 20000 in
theorem gX3_visit_X1_restFrom : GoodIn wsX3_visit (wsV RX3 166 RX1 yX1_restFrom wsX1_restFrom) := goodIn_app (goodIn_of _ (by decide +kernel)) ggX3_visit_X1_restFrom
theorem dX3_visit_0 : decode cX3_visit 0 = .ok (.aload_n 0, 1) := by decide +kernel
theorem dX3_visit_1 : decode cX3_visit 1 = .ok (.iload_n 1, 1) := by decide +kernel
theorem dX3_visit_2 : decode cX3_visit 2 = .ok (.invokevirtual 117, 3) := by decide +kernel
theorem dX3_visit_5 : decode cX3_visit 5 = .ok (.astore_n 3, 1) := by decide +kernel
theorem dX3_visit_6 : decode cX3_visit 6 = .ok (.iload_n 2, 1) := by decide +kernel
theorem dX3_visit_7 : decode cX3_visit 7 = .ok (.ifCond .lt 8, 3) := by decide +kernel
theorem dX3_visit_10 : decode cX3_visit 10 = .ok (.iload_n 2, 1) := by decide +kernel
theorem dX3_visit_11 : decode cX3_visit 11 = .ok (.iconst 3, 1) := by decide +kernel
theorem dX3_visit_12 : decode cX3_visit 12 = .ok (.if_icmp .le 13, 3) := by decide +kernel
theorem dX3_visit_15 : decode cX3_visit 15 = .ok (.new 39, 3) := by decide +kernel
theorem dX3_visit_18 : decode cX3_visit 18 = .ok (.dup, 1) := by decide +kernel
theorem dX3_visit_19 : decode cX3_visit 19 = .ok (.ldc 151, 2) := by decide +kernel
theorem dX3_visit_21 : decode cX3_visit 21 = .ok (.invokespecial 43, 3) := by decide +kernel
theorem dX3_visit_24 : decode cX3_visit 24 = .ok (.athrow, 1) := by decide +kernel
theorem dX3_visit_25 : decode cX3_visit 25 = .ok (.aload_n 0, 1) := by decide +kernel
theorem dX3_visit_26 : decode cX3_visit 26 = .ok (.aload_n 3, 1) := by decide +kernel
theorem dX3_visit_27 : decode cX3_visit 27 = .ok (.invokevirtual 136, 3) := by decide +kernel
theorem dX3_visit_30 : decode cX3_visit 30 = .ok (.ifCond .ne 13, 3) := by decide +kernel
theorem dX3_visit_33 : decode cX3_visit 33 = .ok (.new 50, 3) := by decide +kernel
theorem dX3_visit_36 : decode cX3_visit 36 = .ok (.dup, 1) := by decide +kernel
theorem dX3_visit_37 : decode cX3_visit 37 = .ok (.ldc 153, 2) := by decide +kernel
theorem dX3_visit_39 : decode cX3_visit 39 = .ok (.invokespecial 54, 3) := by decide +kernel
theorem dX3_visit_42 : decode cX3_visit 42 = .ok (.athrow, 1) := by decide +kernel
theorem dX3_visit_43 : decode cX3_visit 43 = .ok (.aload_n 0, 1) := by decide +kernel
theorem dX3_visit_44 : decode cX3_visit 44 = .ok (.dup, 1) := by decide +kernel
theorem dX3_visit_45 : decode cX3_visit 45 = .ok (.getfield 155, 3) := by decide +kernel
theorem dX3_visit_48 : decode cX3_visit 48 = .ok (.iconst 1, 1) := by decide +kernel
theorem dX3_visit_49 : decode cX3_visit 49 = .ok (.iadd, 1) := by decide +kernel
theorem dX3_visit_50 : decode cX3_visit 50 = .ok (.putfield 155, 3) := by decide +kernel
theorem dX3_visit_53 : decode cX3_visit 53 = .ok (.aload_n 0, 1) := by decide +kernel
theorem dX3_visit_54 : decode cX3_visit 54 = .ok (.aload_n 3, 1) := by decide +kernel
theorem dX3_visit_55 : decode cX3_visit 55 = .ok (.iload_n 2, 1) := by decide +kernel
theorem dX3_visit_56 : decode cX3_visit 56 = .ok (.invokevirtual 158, 3) := by decide +kernel
theorem dX3_visit_59 : decode cX3_visit 59 = .ok (.aload_n 3, 1) := by decide +kernel
theorem dX3_visit_60 : decode cX3_visit 60 = .ok (.getfield 162, 3) := by decide +kernel
theorem dX3_visit_63 : decode cX3_visit 63 = .ok (.aload_n 0, 1) := by decide +kernel
theorem dX3_visit_64 : decode cX3_visit 64 = .ok (.getfield 111, 3) := by decide +kernel
theorem dX3_visit_67 : decode cX3_visit 67 = .ok (.invokevirtual 166, 3) := by decide +kernel
theorem dX3_visit_70 : decode cX3_visit 70 = .ok (.aload_n 3, 1) := by decide +kernel
theorem dX3_visit_71 : decode cX3_visit 71 = .ok (.getfield 162, 3) := by decide +kernel
theorem dX3_visit_74 : decode cX3_visit 74 = .ok (.getfield 89, 3) := by decide +kernel
theorem dX3_visit_77 : decode cX3_visit 77 = .ok (.ireturn, 1) := by decide +kernel
set_option maxRecDepth 20000 in
theorem ggX3_pass_X3_startOfNextSpan : GoodIn wsX3_pass wsX3_startOfNextSpan := goodIn_r _ [12, 5, 13, 14, 15, 16, 17, 18, 19, 20, 21] (by decide +kernel) (by decide +kernel)
set_option maxRecDepth 20000 in
theorem gX3_pass_X3_startOfNextSpan : GoodIn wsX3_pass (wsV RX3 174 RX3 yX3_startOfNextSpan wsX3_startOfNextSpan) := goodIn_app (goodIn_of _ (by decide +kernel)) ggX3_pass_X3_startOfNextSpan
theorem dX3_pass_0 : decode cX3_pass 0 = .ok (.iload_n 1, 1) := by decide +kernel
theorem dX3_pass_1 : decode cX3_pass 1 = .ok (.iconst 1, 1) := by decide +kernel
theorem dX3_pass_2 : decode cX3_pass 2 = .ok (.if_icmp .lt 10, 3) := by decide +kernel
theorem dX3_pass_5 : decode cX3_pass 5 = .ok (.iload_n 1, 1) := by decide +kernel
theorem dX3_pass_6 : decode cX3_pass 6 = .ok (.sipush 1000, 3) := by decide +kernel
theorem dX3_pass_9 : decode cX3_pass 9 = .ok (.if_icmp .le 13, 3) := by decide +kernel
theorem dX3_pass_12 : decode cX3_pass 12 = .ok (.new 39, 3) := by decide +kernel
theorem dX3_pass_15 : decode cX3_pass 15 = .ok (.dup, 1) := by decide +kernel
theorem dX3_pass_16 : decode cX3_pass 16 = .ok (.ldc 169, 2) := by decide +kernel
theorem dX3_pass_18 : decode cX3_pass 18 = .ok (.invokespecial 43, 3) := by decide +kernel
theorem dX3_pass_21 : decode cX3_pass 21 = .ok (.athrow, 1) := by decide +kernel
theorem dX3_pass_22 : decode cX3_pass 22 = .ok (.aload_n 0, 1) := by decide +kernel
theorem dX3_pass_23 : decode cX3_pass 23 = .ok (.getfield 111, 3) := by decide +kernel
theorem dX3_pass_26 : decode cX3_pass 26 = .ok (.iload_n 1, 1) := by decide +kernel
theorem dX3_pass_27 : decode cX3_pass 27 = .ok (.iadd, 1) := by decide +kernel
theorem dX3_pass_28 : decode cX3_pass 28 = .ok (.ldc 171, 2) := by decide +kernel
theorem dX3_pass_30 : decode cX3_pass 30 = .ok (.if_icmp .le 13, 3) := by decide +kernel
theorem dX3_pass_33 : decode cX3_pass 33 = .ok (.new 50, 3) := by decide +kernel
theorem dX3_pass_36 : decode cX3_pass 36 = .ok (.dup, 1) := by decide +kernel
theorem dX3_pass_37 : decode cX3_pass 37 = .ok (.ldc 172, 2) := by decide +kernel
theorem dX3_pass_39 : decode cX3_pass 39 = .ok (.invokespecial 54, 3) := by decide +kernel
theorem dX3_pass_42 : decode cX3_pass 42 = .ok (.athrow, 1) := by decide +kernel
theorem dX3_pass_43 : decode cX3_pass 43 = .ok (.aload_n 0, 1) := by decide +kernel
theorem dX3_pass_44 : decode cX3_pass 44 = .ok (.getfield 111, 3) := by decide +kernel
theorem dX3_pass_47 : decode cX3_pass 47 = .ok (.iload_n 1, 1) := by decide +kernel
theorem dX3_pass_48 : decode cX3_pass 48 = .ok (.iadd, 1) := by decide +kernel
theorem dX3_pass_49 : decode cX3_pass 49 = .ok (.aload_n 0, 1) := by decide +kernel
theorem dX3_pass_50 : decode cX3_pass 50 = .ok (.invokevirtual 174, 3) := by decide +kernel
theorem dX3_pass_53 : decode cX3_pass 53 = .ok (.if_icmp .lt 8, 3) := by decide +kernel
theorem dX3_pass_56 : decode cX3_pass 56 = .ok (.aload_n 0, 1) := by decide +kernel
theorem dX3_pass_57 : decode cX3_pass 57 = .ok (.iconst 0, 1) := by decide +kernel
theorem dX3_pass_58 : decode cX3_pass 58 = .ok (.putfield 155, 3) := by decide +kernel
theorem dX3_pass_61 : decode cX3_pass 61 = .ok (.aload_n 0, 1) := by decide +kernel
theorem dX3_pass_62 : decode cX3_pass 62 = .ok (.dup, 1) := by decide +kernel
theorem dX3_pass_63 : decode cX3_pass 63 = .ok (.getfield 111, 3) := by decide +kernel
theorem dX3_pass_66 : decode cX3_pass 66 = .ok (.iload_n 1, 1) := by decide +kernel
theorem dX3_pass_67 : decode cX3_pass 67 = .ok (.iadd, 1) := by decide +kernel
theorem dX3_pass_68 : decode cX3_pass 68 = .ok (.putfield 111, 3) := by decide +kernel
theorem dX3_pass_71 : decode cX3_pass 71 = .ok (.aload_n 0, 1) := by decide +kernel
theorem dX3_pass_72 : decode cX3_pass 72 = .ok (.getfield 111, 3) := by decide +kernel
theorem dX3_pass_75 : decode cX3_pass 75 = .ok (.ireturn, 1) := by decide +kernel
theorem dX3_now_0 : decode cX3_now 0 = .ok (.aload_n 0, 1) := by decide +kernel
theorem dX3_now_1 : decode cX3_now 1 = .ok (.getfield 111, 3) := by decide +kernel
theorem dX3_now_4 : decode cX3_now 4 = .ok (.ireturn, 1) := by decide +kernel
theorem dX3_budgetLeft_0 : decode cX3_budgetLeft 0 = .ok (.iconst 0, 1) := by decide +kernel
theorem dX3_budgetLeft_1 : decode cX3_budgetLeft 1 = .ok (.aload_n 0, 1) := by decide +kernel
theorem dX3_budgetLeft_2 : decode cX3_budgetLeft 2 = .ok (.getfield 36, 3) := by decide +kernel
theorem dX3_budgetLeft_5 : decode cX3_budgetLeft 5 = .ok (.aload_n 0, 1) := by decide +kernel
theorem dX3_budgetLeft_6 : decode cX3_budgetLeft 6 = .ok (.getfield 155, 3) := by decide +kernel
theorem dX3_budgetLeft_9 : decode cX3_budgetLeft 9 = .ok (.isub, 1) := by decide +kernel
theorem dX3_budgetLeft_10 : decode cX3_budgetLeft 10 = .ok (.invokestatic 178, 3) := by decide +kernel
theorem dX3_budgetLeft_13 : decode cX3_budgetLeft 13 = .ok (.ireturn, 1) := by decide +kernel
set_option maxRecDepth 20000 in
theorem ggX3_waiting_X2_isKept : GoodIn wsX3_waiting wsX2_isKept := goodIn_r _ [11, 12, 13, 44, 45, 46, 47, 48, 49, 50, 51, 52, 53] (by decide +kernel) (by decide +kernel)
set_option maxRecDepth 20000 in
theorem gX3_waiting_X2_isKept : GoodIn wsX3_waiting (wsV RX3 124 RX2 yX2_isKept wsX2_isKept) := goodIn_app (goodIn_of _ (by decide +kernel)) ggX3_waiting_X2_isKept
set_option maxRecDepth 20000 in
theorem ggX3_waiting_X3_readyFrom : GoodIn wsX3_waiting wsX3_readyFrom := goodIn_r _ [18, 2, 19, 20, 21, 22, 23, 5, 24, 25, 26, 27, 17, 28, 29, 30, 31, 32, 33, 34, 35, 36, 37, 38, 39, 40, 41, 42, 43, 44, 45, 46, 47, 48, 49, 50, 51, 52, 53, 54, 55, 56] (by decide +kernel) (by decide +kernel)
set_option maxRecDepth 20000 in
theorem gX3_waiting_X3_readyFrom : GoodIn wsX3_waiting (wsV RX3 184 RX3 yX3_readyFrom wsX3_readyFrom) := goodIn_app (goodIn_of _ (by decide +kernel)) ggX3_waiting_X3_readyFrom
theorem dX3_waiting_0 : decode cX3_waiting 0 = .ok (.iconst (-1), 1) := by decide +kernel
theorem dX3_waiting_1 : decode cX3_waiting 1 = .ok (.istore_n 1, 1) := by decide +kernel
theorem dX3_waiting_2 : decode cX3_waiting 2 = .ok (.aload_n 0, 1) := by decide +kernel
theorem dX3_waiting_3 : decode cX3_waiting 3 = .ok (.getfield 25, 3) := by decide +kernel
theorem dX3_waiting_6 : decode cX3_waiting 6 = .ok (.astore_n 2, 1) := by decide +kernel
theorem dX3_waiting_7 : decode cX3_waiting 7 = .ok (.aload_n 2, 1) := by decide +kernel
theorem dX3_waiting_8 : decode cX3_waiting 8 = .ok (.arraylength, 1) := by decide +kernel
theorem dX3_waiting_9 : decode cX3_waiting 9 = .ok (.istore_n 3, 1) := by decide +kernel
theorem dX3_waiting_10 : decode cX3_waiting 10 = .ok (.iconst 0, 1) := by decide +kernel
theorem dX3_waiting_11 : decode cX3_waiting 11 = .ok (.istore 4, 2) := by decide +kernel
theorem dX3_waiting_13 : decode cX3_waiting 13 = .ok (.iload 4, 2) := by decide +kernel
theorem dX3_waiting_15 : decode cX3_waiting 15 = .ok (.iload_n 3, 1) := by decide +kernel
theorem dX3_waiting_16 : decode cX3_waiting 16 = .ok (.if_icmp .ge 58, 3) := by decide +kernel
theorem dX3_waiting_19 : decode cX3_waiting 19 = .ok (.aload_n 2, 1) := by decide +kernel
theorem dX3_waiting_20 : decode cX3_waiting 20 = .ok (.iload 4, 2) := by decide +kernel
theorem dX3_waiting_22 : decode cX3_waiting 22 = .ok (.aaload, 1) := by decide +kernel
theorem dX3_waiting_23 : decode cX3_waiting 23 = .ok (.astore 5, 2) := by decide +kernel
theorem dX3_waiting_25 : decode cX3_waiting 25 = .ok (.aload 5, 2) := by decide +kernel
theorem dX3_waiting_27 : decode cX3_waiting 27 = .ok (.ifnull 41, 3) := by decide +kernel
theorem dX3_waiting_30 : decode cX3_waiting 30 = .ok (.aload 5, 2) := by decide +kernel
theorem dX3_waiting_32 : decode cX3_waiting 32 = .ok (.invokevirtual 124, 3) := by decide +kernel
theorem dX3_waiting_35 : decode cX3_waiting 35 = .ok (.ifCond .eq 33, 3) := by decide +kernel
theorem dX3_waiting_38 : decode cX3_waiting 38 = .ok (.aload_n 0, 1) := by decide +kernel
theorem dX3_waiting_39 : decode cX3_waiting 39 = .ok (.aload 5, 2) := by decide +kernel
theorem dX3_waiting_41 : decode cX3_waiting 41 = .ok (.invokevirtual 184, 3) := by decide +kernel
theorem dX3_waiting_44 : decode cX3_waiting 44 = .ok (.aload_n 0, 1) := by decide +kernel
theorem dX3_waiting_45 : decode cX3_waiting 45 = .ok (.getfield 111, 3) := by decide +kernel
theorem dX3_waiting_48 : decode cX3_waiting 48 = .ok (.isub, 1) := by decide +kernel
theorem dX3_waiting_49 : decode cX3_waiting 49 = .ok (.istore 6, 2) := by decide +kernel
theorem dX3_waiting_51 : decode cX3_waiting 51 = .ok (.iload_n 1, 1) := by decide +kernel
theorem dX3_waiting_52 : decode cX3_waiting 52 = .ok (.iconst (-1), 1) := by decide +kernel
theorem dX3_waiting_53 : decode cX3_waiting 53 = .ok (.if_icmp .ne 8, 3) := by decide +kernel
theorem dX3_waiting_56 : decode cX3_waiting 56 = .ok (.iload 6, 2) := by decide +kernel
theorem dX3_waiting_58 : decode cX3_waiting 58 = .ok (.goto 9, 3) := by decide +kernel
theorem dX3_waiting_61 : decode cX3_waiting 61 = .ok (.iload_n 1, 1) := by decide +kernel
theorem dX3_waiting_62 : decode cX3_waiting 62 = .ok (.iload 6, 2) := by decide +kernel
theorem dX3_waiting_64 : decode cX3_waiting 64 = .ok (.invokestatic 187, 3) := by decide +kernel
theorem dX3_waiting_67 : decode cX3_waiting 67 = .ok (.istore_n 1, 1) := by decide +kernel
theorem dX3_waiting_68 : decode cX3_waiting 68 = .ok (.iinc 4 1, 3) := by decide +kernel
theorem dX3_waiting_71 : decode cX3_waiting 71 = .ok (.goto (-58), 3) := by decide +kernel
theorem dX3_waiting_74 : decode cX3_waiting 74 = .ok (.iload_n 1, 1) := by decide +kernel
theorem dX3_waiting_75 : decode cX3_waiting 75 = .ok (.ireturn, 1) := by decide +kernel
set_option maxRecDepth 20000 in
theorem ggX3_share_X3_knownPage : GoodIn wsX3_share wsX3_knownPage := goodIn_ca (goodIn_r _ [8, 9, 10, 11, 53, 54, 55, 56, 57, 58, 59, 60, 61] (by decide +kernel) (by decide +kernel)) (goodIn_sub (fun _ h => List.mem_cons_of_mem _ (List.mem_append_right _ h)) (by decide +kernel))
set_option maxRecDepth 20000 in
theorem gX3_share_X3_knownPage : GoodIn wsX3_share (wsV RX3 117 RX3 yX3_knownPage wsX3_knownPage) := goodIn_app (goodIn_of _ (by decide +kernel)) ggX3_share_X3_knownPage
set_option maxRecDepth 20000 in
theorem ggX3_share_X3_forgetSpread : GoodIn wsX3_share wsX3_forgetSpread := goodIn_r _ [15, 11, 3, 53, 54, 55, 56, 57, 58, 59, 60, 61, 43, 44, 45, 46, 47, 48, 49, 50, 51, 52] (by decide +kernel) (by decide +kernel)
set_option maxRecDepth 20000 in
theorem gX3_share_X3_forgetSpread : GoodIn wsX3_share (wsV RX3 192 RX3 yX3_forgetSpread wsX3_forgetSpread) := goodIn_app (goodIn_of _ (by decide +kernel)) ggX3_share_X3_forgetSpread
set_option maxRecDepth 20000 in
theorem ggX3_share_X3_spreadOneVisit : GoodIn wsX3_share wsX3_spreadOneVisit := goodIn_r _ [19, 11, 3, 20, 21, 22, 23, 24, 25, 26, 27, 28, 29, 30, 31, 32, 33, 34, 35, 36, 37, 38, 39, 40, 41, 42, 53, 54, 55, 56, 57, 58, 59, 60, 61, 43, 44, 45, 46, 47, 48, 49, 50, 51, 52] (by decide +kernel) (by decide +kernel)
set_option maxRecDepth 20000 in
theorem gX3_share_X3_spreadOneVisit : GoodIn wsX3_share (wsV RX3 195 RX3 yX3_spreadOneVisit wsX3_spreadOneVisit) := goodIn_app (goodIn_of _ (by decide +kernel)) ggX3_share_X3_spreadOneVisit
theorem dX3_share_0 : decode cX3_share 0 = .ok (.aload_n 0, 1) := by decide +kernel
theorem dX3_share_1 : decode cX3_share 1 = .ok (.iload_n 1, 1) := by decide +kernel
theorem dX3_share_2 : decode cX3_share 2 = .ok (.invokevirtual 117, 3) := by decide +kernel
theorem dX3_share_5 : decode cX3_share 5 = .ok (.astore_n 3, 1) := by decide +kernel
theorem dX3_share_6 : decode cX3_share 6 = .ok (.iload_n 2, 1) := by decide +kernel
theorem dX3_share_7 : decode cX3_share 7 = .ok (.ifCond .lt 9, 3) := by decide +kernel
theorem dX3_share_10 : decode cX3_share 10 = .ok (.iload_n 2, 1) := by decide +kernel
theorem dX3_share_11 : decode cX3_share 11 = .ok (.bipush 100, 2) := by decide +kernel
theorem dX3_share_13 : decode cX3_share 13 = .ok (.if_icmp .le 13, 3) := by decide +kernel
theorem dX3_share_16 : decode cX3_share 16 = .ok (.new 39, 3) := by decide +kernel
theorem dX3_share_19 : decode cX3_share 19 = .ok (.dup, 1) := by decide +kernel
theorem dX3_share_20 : decode cX3_share 20 = .ok (.ldc 190, 2) := by decide +kernel
theorem dX3_share_22 : decode cX3_share 22 = .ok (.invokespecial 43, 3) := by decide +kernel
theorem dX3_share_25 : decode cX3_share 25 = .ok (.athrow, 1) := by decide +kernel
theorem dX3_share_26 : decode cX3_share 26 = .ok (.aload_n 0, 1) := by decide +kernel
theorem dX3_share_27 : decode cX3_share 27 = .ok (.invokevirtual 192, 3) := by decide +kernel
theorem dX3_share_30 : decode cX3_share 30 = .ok (.iconst 0, 1) := by decide +kernel
theorem dX3_share_31 : decode cX3_share 31 = .ok (.istore 4, 2) := by decide +kernel
theorem dX3_share_33 : decode cX3_share 33 = .ok (.iload 4, 2) := by decide +kernel
theorem dX3_share_35 : decode cX3_share 35 = .ok (.iload_n 2, 1) := by decide +kernel
theorem dX3_share_36 : decode cX3_share 36 = .ok (.if_icmp .ge 13, 3) := by decide +kernel
theorem dX3_share_39 : decode cX3_share 39 = .ok (.aload_n 0, 1) := by decide +kernel
theorem dX3_share_40 : decode cX3_share 40 = .ok (.invokevirtual 195, 3) := by decide +kernel
theorem dX3_share_43 : decode cX3_share 43 = .ok (.iinc 4 1, 3) := by decide +kernel
theorem dX3_share_46 : decode cX3_share 46 = .ok (.goto (-13), 3) := by decide +kernel
theorem dX3_share_49 : decode cX3_share 49 = .ok (.aload_n 3, 1) := by decide +kernel
theorem dX3_share_50 : decode cX3_share 50 = .ok (.getfield 198, 3) := by decide +kernel
theorem dX3_share_53 : decode cX3_share 53 = .ok (.ireturn, 1) := by decide +kernel
theorem dX3_knownHost_0 : decode cX3_knownHost 0 = .ok (.iload_n 1, 1) := by decide +kernel
theorem dX3_knownHost_1 : decode cX3_knownHost 1 = .ok (.ifCond .lt 21, 3) := by decide +kernel
theorem dX3_knownHost_4 : decode cX3_knownHost 4 = .ok (.iload_n 1, 1) := by decide +kernel
theorem dX3_knownHost_5 : decode cX3_knownHost 5 = .ok (.aload_n 0, 1) := by decide +kernel
theorem dX3_knownHost_6 : decode cX3_knownHost 6 = .ok (.getfield 18, 3) := by decide +kernel
theorem dX3_knownHost_9 : decode cX3_knownHost 9 = .ok (.arraylength, 1) := by decide +kernel
theorem dX3_knownHost_10 : decode cX3_knownHost 10 = .ok (.if_icmp .ge 12, 3) := by decide +kernel
theorem dX3_knownHost_13 : decode cX3_knownHost 13 = .ok (.aload_n 0, 1) := by decide +kernel
theorem dX3_knownHost_14 : decode cX3_knownHost 14 = .ok (.getfield 18, 3) := by decide +kernel
theorem dX3_knownHost_17 : decode cX3_knownHost 17 = .ok (.iload_n 1, 1) := by decide +kernel
theorem dX3_knownHost_18 : decode cX3_knownHost 18 = .ok (.aaload, 1) := by decide +kernel
theorem dX3_knownHost_19 : decode cX3_knownHost 19 = .ok (.goto 4, 3) := by decide +kernel
theorem dX3_knownHost_22 : decode cX3_knownHost 22 = .ok (.aconst_null, 1) := by decide +kernel
theorem dX3_knownHost_23 : decode cX3_knownHost 23 = .ok (.astore_n 2, 1) := by decide +kernel
theorem dX3_knownHost_24 : decode cX3_knownHost 24 = .ok (.aload_n 2, 1) := by decide +kernel
theorem dX3_knownHost_25 : decode cX3_knownHost 25 = .ok (.ifnonnull 13, 3) := by decide +kernel
theorem dX3_knownHost_28 : decode cX3_knownHost 28 = .ok (.new 201, 3) := by decide +kernel
theorem dX3_knownHost_31 : decode cX3_knownHost 31 = .ok (.dup, 1) := by decide +kernel
theorem dX3_knownHost_32 : decode cX3_knownHost 32 = .ok (.ldc 203, 2) := by decide +kernel
theorem dX3_knownHost_34 : decode cX3_knownHost 34 = .ok (.invokespecial 205, 3) := by decide +kernel
theorem dX3_knownHost_37 : decode cX3_knownHost 37 = .ok (.athrow, 1) := by decide +kernel
theorem dX3_knownHost_38 : decode cX3_knownHost 38 = .ok (.aload_n 2, 1) := by decide +kernel
theorem dX3_knownHost_39 : decode cX3_knownHost 39 = .ok (.areturn, 1) := by decide +kernel
theorem dX3_knownPage_0 : decode cX3_knownPage 0 = .ok (.iload_n 1, 1) := by decide +kernel
theorem dX3_knownPage_1 : decode cX3_knownPage 1 = .ok (.ifCond .lt 21, 3) := by decide +kernel
theorem dX3_knownPage_4 : decode cX3_knownPage 4 = .ok (.iload_n 1, 1) := by decide +kernel
theorem dX3_knownPage_5 : decode cX3_knownPage 5 = .ok (.aload_n 0, 1) := by decide +kernel
theorem dX3_knownPage_6 : decode cX3_knownPage 6 = .ok (.getfield 25, 3) := by decide +kernel
theorem dX3_knownPage_9 : decode cX3_knownPage 9 = .ok (.arraylength, 1) := by decide +kernel
theorem dX3_knownPage_10 : decode cX3_knownPage 10 = .ok (.if_icmp .ge 12, 3) := by decide +kernel
theorem dX3_knownPage_13 : decode cX3_knownPage 13 = .ok (.aload_n 0, 1) := by decide +kernel
theorem dX3_knownPage_14 : decode cX3_knownPage 14 = .ok (.getfield 25, 3) := by decide +kernel
theorem dX3_knownPage_17 : decode cX3_knownPage 17 = .ok (.iload_n 1, 1) := by decide +kernel
theorem dX3_knownPage_18 : decode cX3_knownPage 18 = .ok (.aaload, 1) := by decide +kernel
theorem dX3_knownPage_19 : decode cX3_knownPage 19 = .ok (.goto 4, 3) := by decide +kernel
theorem dX3_knownPage_22 : decode cX3_knownPage 22 = .ok (.aconst_null, 1) := by decide +kernel
theorem dX3_knownPage_23 : decode cX3_knownPage 23 = .ok (.astore_n 2, 1) := by decide +kernel
theorem dX3_knownPage_24 : decode cX3_knownPage 24 = .ok (.aload_n 2, 1) := by decide +kernel
theorem dX3_knownPage_25 : decode cX3_knownPage 25 = .ok (.ifnonnull 13, 3) := by decide +kernel
theorem dX3_knownPage_28 : decode cX3_knownPage 28 = .ok (.new 201, 3) := by decide +kernel
theorem dX3_knownPage_31 : decode cX3_knownPage 31 = .ok (.dup, 1) := by decide +kernel
theorem dX3_knownPage_32 : decode cX3_knownPage 32 = .ok (.ldc 206, 2) := by decide +kernel
theorem dX3_knownPage_34 : decode cX3_knownPage 34 = .ok (.invokespecial 205, 3) := by decide +kernel
theorem dX3_knownPage_37 : decode cX3_knownPage 37 = .ok (.athrow, 1) := by decide +kernel
theorem dX3_knownPage_38 : decode cX3_knownPage 38 = .ok (.aload_n 2, 1) := by decide +kernel
theorem dX3_knownPage_39 : decode cX3_knownPage 39 = .ok (.areturn, 1) := by decide +kernel
theorem dX3_refuseOtherRanks_0 : decode cX3_refuseOtherRanks 0 = .ok (.iload_n 0, 1) := by decide +kernel
theorem dX3_refuseOtherRanks_1 : decode cX3_refuseOtherRanks 1 = .ok (.ifCond .lt 9, 3) := by decide +kernel
theorem dX3_refuseOtherRanks_4 : decode cX3_refuseOtherRanks 4 = .ok (.iload_n 0, 1) := by decide +kernel
theorem dX3_refuseOtherRanks_5 : decode cX3_refuseOtherRanks 5 = .ok (.bipush 9, 2) := by decide +kernel
theorem dX3_refuseOtherRanks_7 : decode cX3_refuseOtherRanks 7 = .ok (.if_icmp .le 13, 3) := by decide +kernel
theorem dX3_refuseOtherRanks_10 : decode cX3_refuseOtherRanks 10 = .ok (.new 39, 3) := by decide +kernel
theorem dX3_refuseOtherRanks_13 : decode cX3_refuseOtherRanks 13 = .ok (.dup, 1) := by decide +kernel
theorem dX3_refuseOtherRanks_14 : decode cX3_refuseOtherRanks 14 = .ok (.ldc 208, 2) := by decide +kernel
theorem dX3_refuseOtherRanks_16 : decode cX3_refuseOtherRanks 16 = .ok (.invokespecial 43, 3) := by decide +kernel
theorem dX3_refuseOtherRanks_19 : decode cX3_refuseOtherRanks 19 = .ok (.athrow, 1) := by decide +kernel
theorem dX3_refuseOtherRanks_20 : decode cX3_refuseOtherRanks 20 = .ok (.return_, 1) := by decide +kernel
set_option maxRecDepth 20000 in
theorem ggX3_pageAtBuffer_X0_isSameAs : GoodIn wsX3_pageAtBuffer wsX0_isSameAs := goodIn_r _ [9, 10, 11, 12, 13, 8, 14, 15, 35, 36, 37, 38] (by decide +kernel) (by decide +kernel)
set_option maxRecDepth 20000 in
theorem gX3_pageAtBuffer_X0_isSameAs : GoodIn wsX3_pageAtBuffer (wsV RX3 213 RX0 yX0_isSameAs wsX0_isSameAs) := goodIn_app (goodIn_of _ (by decide +kernel)) ggX3_pageAtBuffer_X0_isSameAs
theorem dX3_pageAtBuffer_0 : decode cX3_pageAtBuffer 0 = .ok (.aload_n 0, 1) := by decide +kernel
theorem dX3_pageAtBuffer_1 : decode cX3_pageAtBuffer 1 = .ok (.getfield 25, 3) := by decide +kernel
theorem dX3_pageAtBuffer_4 : decode cX3_pageAtBuffer 4 = .ok (.astore_n 2, 1) := by decide +kernel
theorem dX3_pageAtBuffer_5 : decode cX3_pageAtBuffer 5 = .ok (.aload_n 2, 1) := by decide +kernel
theorem dX3_pageAtBuffer_6 : decode cX3_pageAtBuffer 6 = .ok (.arraylength, 1) := by decide +kernel
theorem dX3_pageAtBuffer_7 : decode cX3_pageAtBuffer 7 = .ok (.istore_n 3, 1) := by decide +kernel
theorem dX3_pageAtBuffer_8 : decode cX3_pageAtBuffer 8 = .ok (.iconst 0, 1) := by decide +kernel
theorem dX3_pageAtBuffer_9 : decode cX3_pageAtBuffer 9 = .ok (.istore 4, 2) := by decide +kernel
theorem dX3_pageAtBuffer_11 : decode cX3_pageAtBuffer 11 = .ok (.iload 4, 2) := by decide +kernel
theorem dX3_pageAtBuffer_13 : decode cX3_pageAtBuffer 13 = .ok (.iload_n 3, 1) := by decide +kernel
theorem dX3_pageAtBuffer_14 : decode cX3_pageAtBuffer 14 = .ok (.if_icmp .ge 47, 3) := by decide +kernel
theorem dX3_pageAtBuffer_17 : decode cX3_pageAtBuffer 17 = .ok (.aload_n 2, 1) := by decide +kernel
theorem dX3_pageAtBuffer_18 : decode cX3_pageAtBuffer 18 = .ok (.iload 4, 2) := by decide +kernel
theorem dX3_pageAtBuffer_20 : decode cX3_pageAtBuffer 20 = .ok (.aaload, 1) := by decide +kernel
theorem dX3_pageAtBuffer_21 : decode cX3_pageAtBuffer 21 = .ok (.astore 5, 2) := by decide +kernel
theorem dX3_pageAtBuffer_23 : decode cX3_pageAtBuffer 23 = .ok (.aload 5, 2) := by decide +kernel
theorem dX3_pageAtBuffer_25 : decode cX3_pageAtBuffer 25 = .ok (.ifnull 30, 3) := by decide +kernel
theorem dX3_pageAtBuffer_28 : decode cX3_pageAtBuffer 28 = .ok (.aload 5, 2) := by decide +kernel
theorem dX3_pageAtBuffer_30 : decode cX3_pageAtBuffer 30 = .ok (.getfield 162, 3) := by decide +kernel
theorem dX3_pageAtBuffer_33 : decode cX3_pageAtBuffer 33 = .ok (.aload_n 1, 1) := by decide +kernel
theorem dX3_pageAtBuffer_34 : decode cX3_pageAtBuffer 34 = .ok (.if_acmp .ne 21, 3) := by decide +kernel
theorem dX3_pageAtBuffer_37 : decode cX3_pageAtBuffer 37 = .ok (.aload 5, 2) := by decide +kernel
theorem dX3_pageAtBuffer_39 : decode cX3_pageAtBuffer 39 = .ok (.getfield 210, 3) := by decide +kernel
theorem dX3_pageAtBuffer_42 : decode cX3_pageAtBuffer 42 = .ok (.aload_n 0, 1) := by decide +kernel
theorem dX3_pageAtBuffer_43 : decode cX3_pageAtBuffer 43 = .ok (.getfield 10, 3) := by decide +kernel
theorem dX3_pageAtBuffer_46 : decode cX3_pageAtBuffer 46 = .ok (.invokevirtual 213, 3) := by decide +kernel
theorem dX3_pageAtBuffer_49 : decode cX3_pageAtBuffer 49 = .ok (.ifCond .eq 6, 3) := by decide +kernel
theorem dX3_pageAtBuffer_52 : decode cX3_pageAtBuffer 52 = .ok (.aload 5, 2) := by decide +kernel
theorem dX3_pageAtBuffer_54 : decode cX3_pageAtBuffer 54 = .ok (.areturn, 1) := by decide +kernel
theorem dX3_pageAtBuffer_55 : decode cX3_pageAtBuffer 55 = .ok (.iinc 4 1, 3) := by decide +kernel
theorem dX3_pageAtBuffer_58 : decode cX3_pageAtBuffer 58 = .ok (.goto (-47), 3) := by decide +kernel
theorem dX3_pageAtBuffer_61 : decode cX3_pageAtBuffer 61 = .ok (.aconst_null, 1) := by decide +kernel
theorem dX3_pageAtBuffer_62 : decode cX3_pageAtBuffer 62 = .ok (.areturn, 1) := by decide +kernel
theorem dX3_numberOf_0 : decode cX3_numberOf 0 = .ok (.aload_n 0, 1) := by decide +kernel
theorem dX3_numberOf_1 : decode cX3_numberOf 1 = .ok (.ifnonnull 7, 3) := by decide +kernel
theorem dX3_numberOf_4 : decode cX3_numberOf 4 = .ok (.iconst (-1), 1) := by decide +kernel
theorem dX3_numberOf_5 : decode cX3_numberOf 5 = .ok (.goto 7, 3) := by decide +kernel
theorem dX3_numberOf_8 : decode cX3_numberOf 8 = .ok (.aload_n 0, 1) := by decide +kernel
theorem dX3_numberOf_9 : decode cX3_numberOf 9 = .ok (.getfield 100, 3) := by decide +kernel
theorem dX3_numberOf_12 : decode cX3_numberOf 12 = .ok (.ireturn, 1) := by decide +kernel
set_option maxRecDepth 20000 in
theorem ggX3_isReady_X2_isKept : GoodIn wsX3_isReady wsX2_isKept := goodIn_r _ [6, 7, 8, 40, 41, 42, 43, 44, 45, 46, 47, 48, 49] (by decide +kernel) (by decide +kernel)
set_option maxRecDepth 20000 in
theorem gX3_isReady_X2_isKept : GoodIn wsX3_isReady (wsV RX3 124 RX2 yX2_isKept wsX2_isKept) := goodIn_app (goodIn_of _ (by decide +kernel)) ggX3_isReady_X2_isKept
set_option maxRecDepth 20000 in
theorem ggX3_isReady_X3_readyFrom : GoodIn wsX3_isReady wsX3_readyFrom := goodIn_r _ [13, 1, 14, 15, 16, 17, 18, 19, 20, 21, 22, 23, 12, 24, 25, 26, 27, 28, 29, 30, 31, 32, 33, 34, 35, 36, 37, 38, 39, 40, 41, 42, 43, 44, 45, 46, 47, 48, 49, 50, 51, 52] (by decide +kernel) (by decide +kernel)
set_option maxRecDepth 20000 in
theorem gX3_isReady_X3_readyFrom : GoodIn wsX3_isReady (wsV RX3 184 RX3 yX3_readyFrom wsX3_readyFrom) := goodIn_app (goodIn_of _ (by decide +kernel)) ggX3_isReady_X3_readyFrom
theorem dX3_isReady_0 : decode cX3_isReady 0 = .ok (.aload_n 1, 1) := by decide +kernel
theorem dX3_isReady_1 : decode cX3_isReady 1 = .ok (.invokevirtual 124, 3) := by decide +kernel
theorem dX3_isReady_4 : decode cX3_isReady 4 = .ok (.ifCond .eq 19, 3) := by decide +kernel
theorem dX3_isReady_7 : decode cX3_isReady 7 = .ok (.aload_n 0, 1) := by decide +kernel
theorem dX3_isReady_8 : decode cX3_isReady 8 = .ok (.aload_n 1, 1) := by decide +kernel
theorem dX3_isReady_9 : decode cX3_isReady 9 = .ok (.invokevirtual 184, 3) := by decide +kernel
theorem dX3_isReady_12 : decode cX3_isReady 12 = .ok (.aload_n 0, 1) := by decide +kernel
theorem dX3_isReady_13 : decode cX3_isReady 13 = .ok (.getfield 111, 3) := by decide +kernel
theorem dX3_isReady_16 : decode cX3_isReady 16 = .ok (.if_icmp .gt 7, 3) := by decide +kernel
theorem dX3_isReady_19 : decode cX3_isReady 19 = .ok (.iconst 1, 1) := by decide +kernel
theorem dX3_isReady_20 : decode cX3_isReady 20 = .ok (.goto 4, 3) := by decide +kernel
theorem dX3_isReady_23 : decode cX3_isReady 23 = .ok (.iconst 0, 1) := by decide +kernel
theorem dX3_isReady_24 : decode cX3_isReady 24 = .ok (.ireturn, 1) := by decide +kernel
set_option maxRecDepth 20000 in
theorem ggX3_readyFrom_X3_budgetLeft : GoodIn wsX3_readyFrom wsX3_budgetLeft := goodIn_r _ [13, 14, 15, 5, 6, 7, 8, 20, 21, 22, 23, 24, 25, 26, 27, 28] (by decide +kernel) (by decide +kernel)
set_option maxRecDepth 20000 in
theorem gX3_readyFrom_X3_budgetLeft : GoodIn wsX3_readyFrom (wsV RX3 217 RX3 yX3_budgetLeft wsX3_budgetLeft) := goodIn_app (goodIn_of _ (by decide +kernel)) ggX3_readyFrom_X3_budgetLeft
set_option maxRecDepth 20000 in
theorem ggX3_readyFrom_X3_startOfNextSpan : GoodIn wsX3_readyFrom wsX3_startOfNextSpan := goodIn_r _ [19, 1, 20, 21, 22, 23, 24, 25, 26, 27, 28] (by decide +kernel) (by decide +kernel)
set_option maxRecDepth 20000 in
theorem gX3_readyFrom_X3_startOfNextSpan : GoodIn wsX3_readyFrom (wsV RX3 174 RX3 yX3_startOfNextSpan wsX3_startOfNextSpan) := goodIn_app (goodIn_of _ (by decide +kernel)) ggX3_readyFrom_X3_startOfNextSpan
theorem dX3_readyFrom_0 : decode cX3_readyFrom 0 = .ok (.aload_n 0, 1) := by decide +kernel
theorem dX3_readyFrom_1 : decode cX3_readyFrom 1 = .ok (.invokevirtual 217, 3) := by decide +kernel
theorem dX3_readyFrom_4 : decode cX3_readyFrom 4 = .ok (.ifCond .le 10, 3) := by decide +kernel
theorem dX3_readyFrom_7 : decode cX3_readyFrom 7 = .ok (.aload_n 0, 1) := by decide +kernel
theorem dX3_readyFrom_8 : decode cX3_readyFrom 8 = .ok (.getfield 111, 3) := by decide +kernel
theorem dX3_readyFrom_11 : decode cX3_readyFrom 11 = .ok (.goto 7, 3) := by decide +kernel
theorem dX3_readyFrom_14 : decode cX3_readyFrom 14 = .ok (.aload_n 0, 1) := by decide +kernel
theorem dX3_readyFrom_15 : decode cX3_readyFrom 15 = .ok (.invokevirtual 174, 3) := by decide +kernel
theorem dX3_readyFrom_18 : decode cX3_readyFrom 18 = .ok (.istore_n 2, 1) := by decide +kernel
theorem dX3_readyFrom_19 : decode cX3_readyFrom 19 = .ok (.iload_n 2, 1) := by decide +kernel
theorem dX3_readyFrom_20 : decode cX3_readyFrom 20 = .ok (.aload_n 1, 1) := by decide +kernel
theorem dX3_readyFrom_21 : decode cX3_readyFrom 21 = .ok (.getfield 127, 3) := by decide +kernel
theorem dX3_readyFrom_24 : decode cX3_readyFrom 24 = .ok (.aload_n 1, 1) := by decide +kernel
theorem dX3_readyFrom_25 : decode cX3_readyFrom 25 = .ok (.getfield 162, 3) := by decide +kernel
theorem dX3_readyFrom_28 : decode cX3_readyFrom 28 = .ok (.getfield 89, 3) := by decide +kernel
theorem dX3_readyFrom_31 : decode cX3_readyFrom 31 = .ok (.invokestatic 178, 3) := by decide +kernel
theorem dX3_readyFrom_34 : decode cX3_readyFrom 34 = .ok (.invokestatic 178, 3) := by decide +kernel
theorem dX3_readyFrom_37 : decode cX3_readyFrom 37 = .ok (.ireturn, 1) := by decide +kernel
theorem dX3_startOfNextSpan_0 : decode cX3_startOfNextSpan 0 = .ok (.aload_n 0, 1) := by decide +kernel
theorem dX3_startOfNextSpan_1 : decode cX3_startOfNextSpan 1 = .ok (.getfield 111, 3) := by decide +kernel
theorem dX3_startOfNextSpan_4 : decode cX3_startOfNextSpan 4 = .ok (.bipush 100, 2) := by decide +kernel
theorem dX3_startOfNextSpan_6 : decode cX3_startOfNextSpan 6 = .ok (.idiv, 1) := by decide +kernel
theorem dX3_startOfNextSpan_7 : decode cX3_startOfNextSpan 7 = .ok (.iconst 1, 1) := by decide +kernel
theorem dX3_startOfNextSpan_8 : decode cX3_startOfNextSpan 8 = .ok (.iadd, 1) := by decide +kernel
theorem dX3_startOfNextSpan_9 : decode cX3_startOfNextSpan 9 = .ok (.bipush 100, 2) := by decide +kernel
theorem dX3_startOfNextSpan_11 : decode cX3_startOfNextSpan 11 = .ok (.imul, 1) := by decide +kernel
theorem dX3_startOfNextSpan_12 : decode cX3_startOfNextSpan 12 = .ok (.ireturn, 1) := by decide +kernel
set_option maxRecDepth 20000 in
theorem ggX3_firstOfHost_X3_isReady : GoodIn wsX3_firstOfHost wsX3_isReady := goodIn_r _ [7, 8, 9, 10, 11, 12, 13, 14, 15, 16, 17, 18, 6, 19, 20, 2, 21, 22, 23, 24, 25, 26, 27, 28, 29, 30, 31, 32, 33, 34, 35, 52, 53, 54, 55, 56, 57, 58, 59, 60, 61, 62, 63, 64, 65, 66, 67, 68, 69, 70, 71, 72, 73] (by decide +kernel) (by decide +kernel)
set_option maxRecDepth 20000 in
theorem gX3_firstOfHost_X3_isReady : GoodIn wsX3_firstOfHost (wsV RX3 136 RX3 yX3_isReady wsX3_isReady) := goodIn_app (goodIn_of _ (by decide +kernel)) ggX3_firstOfHost_X3_isReady
set_option maxRecDepth 20000 in
theorem ggX3_firstOfHost_X3_earlier : GoodIn wsX3_firstOfHost wsX3_earlier := goodIn_r _ [39, 40, 41, 42, 6, 43, 8, 44, 45, 46, 47, 48, 12, 49, 50, 51, 52, 53, 54, 55, 56, 57, 58, 59, 60, 61, 62, 63, 64, 65, 66, 67, 68, 69, 70] (by decide +kernel) (by decide +kernel)
set_option maxRecDepth 20000 in
theorem gX3_firstOfHost_X3_earlier : GoodIn wsX3_firstOfHost (wsV RX3 143 RX3 yX3_earlier wsX3_earlier) := goodIn_app (goodIn_of _ (by decide +kernel)) ggX3_firstOfHost_X3_earlier
theorem dX3_firstOfHost_0 : decode cX3_firstOfHost 0 = .ok (.aconst_null, 1) := by decide +kernel
theorem dX3_firstOfHost_1 : decode cX3_firstOfHost 1 = .ok (.astore_n 2, 1) := by decide +kernel
theorem dX3_firstOfHost_2 : decode cX3_firstOfHost 2 = .ok (.aload_n 0, 1) := by decide +kernel
theorem dX3_firstOfHost_3 : decode cX3_firstOfHost 3 = .ok (.getfield 25, 3) := by decide +kernel
theorem dX3_firstOfHost_6 : decode cX3_firstOfHost 6 = .ok (.astore_n 3, 1) := by decide +kernel
theorem dX3_firstOfHost_7 : decode cX3_firstOfHost 7 = .ok (.aload_n 3, 1) := by decide +kernel
theorem dX3_firstOfHost_8 : decode cX3_firstOfHost 8 = .ok (.arraylength, 1) := by decide +kernel
theorem dX3_firstOfHost_9 : decode cX3_firstOfHost 9 = .ok (.istore 4, 2) := by decide +kernel
theorem dX3_firstOfHost_11 : decode cX3_firstOfHost 11 = .ok (.iconst 0, 1) := by decide +kernel
theorem dX3_firstOfHost_12 : decode cX3_firstOfHost 12 = .ok (.istore 5, 2) := by decide +kernel
theorem dX3_firstOfHost_14 : decode cX3_firstOfHost 14 = .ok (.iload 5, 2) := by decide +kernel
theorem dX3_firstOfHost_16 : decode cX3_firstOfHost 16 = .ok (.iload 4, 2) := by decide +kernel
theorem dX3_firstOfHost_18 : decode cX3_firstOfHost 18 = .ok (.if_icmp .ge 46, 3) := by decide +kernel
theorem dX3_firstOfHost_21 : decode cX3_firstOfHost 21 = .ok (.aload_n 3, 1) := by decide +kernel
theorem dX3_firstOfHost_22 : decode cX3_firstOfHost 22 = .ok (.iload 5, 2) := by decide +kernel
theorem dX3_firstOfHost_24 : decode cX3_firstOfHost 24 = .ok (.aaload, 1) := by decide +kernel
theorem dX3_firstOfHost_25 : decode cX3_firstOfHost 25 = .ok (.astore 6, 2) := by decide +kernel
theorem dX3_firstOfHost_27 : decode cX3_firstOfHost 27 = .ok (.aload 6, 2) := by decide +kernel
theorem dX3_firstOfHost_29 : decode cX3_firstOfHost 29 = .ok (.ifnull 29, 3) := by decide +kernel
theorem dX3_firstOfHost_32 : decode cX3_firstOfHost 32 = .ok (.aload 6, 2) := by decide +kernel
theorem dX3_firstOfHost_34 : decode cX3_firstOfHost 34 = .ok (.getfield 162, 3) := by decide +kernel
theorem dX3_firstOfHost_37 : decode cX3_firstOfHost 37 = .ok (.aload_n 1, 1) := by decide +kernel
theorem dX3_firstOfHost_38 : decode cX3_firstOfHost 38 = .ok (.if_acmp .ne 20, 3) := by decide +kernel
theorem dX3_firstOfHost_41 : decode cX3_firstOfHost 41 = .ok (.aload_n 0, 1) := by decide +kernel
theorem dX3_firstOfHost_42 : decode cX3_firstOfHost 42 = .ok (.aload 6, 2) := by decide +kernel
theorem dX3_firstOfHost_44 : decode cX3_firstOfHost 44 = .ok (.invokevirtual 136, 3) := by decide +kernel
theorem dX3_firstOfHost_47 : decode cX3_firstOfHost 47 = .ok (.ifCond .eq 11, 3) := by decide +kernel
theorem dX3_firstOfHost_50 : decode cX3_firstOfHost 50 = .ok (.aload_n 0, 1) := by decide +kernel
theorem dX3_firstOfHost_51 : decode cX3_firstOfHost 51 = .ok (.aload_n 2, 1) := by decide +kernel
theorem dX3_firstOfHost_52 : decode cX3_firstOfHost 52 = .ok (.aload 6, 2) := by decide +kernel
theorem dX3_firstOfHost_54 : decode cX3_firstOfHost 54 = .ok (.invokevirtual 143, 3) := by decide +kernel
theorem dX3_firstOfHost_57 : decode cX3_firstOfHost 57 = .ok (.astore_n 2, 1) := by decide +kernel
theorem dX3_firstOfHost_58 : decode cX3_firstOfHost 58 = .ok (.iinc 5 1, 3) := by decide +kernel
theorem dX3_firstOfHost_61 : decode cX3_firstOfHost 61 = .ok (.goto (-47), 3) := by decide +kernel
theorem dX3_firstOfHost_64 : decode cX3_firstOfHost 64 = .ok (.aload_n 2, 1) := by decide +kernel
theorem dX3_firstOfHost_65 : decode cX3_firstOfHost 65 = .ok (.areturn, 1) := by decide +kernel
set_option maxRecDepth 20000 in
theorem ggX3_earlier_X3_goesBefore : GoodIn wsX3_earlier wsX3_goesBefore := goodIn_r _ [5, 6, 7, 8, 9, 10, 11, 12, 13, 14, 15, 16, 17, 18, 19, 20, 21, 22, 23, 24, 25, 26, 27, 28, 29, 30, 31, 32, 33, 34] (by decide +kernel) (by decide +kernel)
set_option maxRecDepth 20000 in
theorem gX3_earlier_X3_goesBefore : GoodIn wsX3_earlier (wsV RX3 220 RX3 yX3_goesBefore wsX3_goesBefore) := goodIn_app (goodIn_of _ (by decide +kernel)) ggX3_earlier_X3_goesBefore
theorem dX3_earlier_0 : decode cX3_earlier 0 = .ok (.aload_n 1, 1) := by decide +kernel
theorem dX3_earlier_1 : decode cX3_earlier 1 = .ok (.ifnonnull 5, 3) := by decide +kernel
theorem dX3_earlier_4 : decode cX3_earlier 4 = .ok (.aload_n 2, 1) := by decide +kernel
theorem dX3_earlier_5 : decode cX3_earlier 5 = .ok (.areturn, 1) := by decide +kernel
theorem dX3_earlier_6 : decode cX3_earlier 6 = .ok (.aload_n 2, 1) := by decide +kernel
theorem dX3_earlier_7 : decode cX3_earlier 7 = .ok (.ifnull 16, 3) := by decide +kernel
theorem dX3_earlier_10 : decode cX3_earlier 10 = .ok (.aload_n 0, 1) := by decide +kernel
theorem dX3_earlier_11 : decode cX3_earlier 11 = .ok (.aload_n 2, 1) := by decide +kernel
theorem dX3_earlier_12 : decode cX3_earlier 12 = .ok (.aload_n 1, 1) := by decide +kernel
theorem dX3_earlier_13 : decode cX3_earlier 13 = .ok (.invokevirtual 220, 3) := by decide +kernel
theorem dX3_earlier_16 : decode cX3_earlier 16 = .ok (.ifCond .eq 7, 3) := by decide +kernel
theorem dX3_earlier_19 : decode cX3_earlier 19 = .ok (.aload_n 2, 1) := by decide +kernel
theorem dX3_earlier_20 : decode cX3_earlier 20 = .ok (.goto 4, 3) := by decide +kernel
theorem dX3_earlier_23 : decode cX3_earlier 23 = .ok (.aload_n 1, 1) := by decide +kernel
theorem dX3_earlier_24 : decode cX3_earlier 24 = .ok (.areturn, 1) := by decide +kernel
set_option maxRecDepth 20000 in
theorem ggX3_goesBefore_X2_pressing : GoodIn wsX3_goesBefore wsX2_pressing := goodIn_r _ [8, 9, 10, 20, 21, 22, 23, 24, 25, 26, 27, 28, 29] (by decide +kernel) (by decide +kernel)
set_option maxRecDepth 20000 in
theorem gX3_goesBefore_X2_pressing : GoodIn wsX3_goesBefore (wsV RX3 224 RX2 yX2_pressing wsX2_pressing) := goodIn_app (goodIn_of _ (by decide +kernel)) ggX3_goesBefore_X2_pressing
theorem dX3_goesBefore_0 : decode cX3_goesBefore 0 = .ok (.aload_n 1, 1) := by decide +kernel
theorem dX3_goesBefore_1 : decode cX3_goesBefore 1 = .ok (.aload_n 0, 1) := by decide +kernel
theorem dX3_goesBefore_2 : decode cX3_goesBefore 2 = .ok (.getfield 111, 3) := by decide +kernel
theorem dX3_goesBefore_5 : decode cX3_goesBefore 5 = .ok (.invokevirtual 224, 3) := by decide +kernel
theorem dX3_goesBefore_8 : decode cX3_goesBefore 8 = .ok (.istore_n 3, 1) := by decide +kernel
theorem dX3_goesBefore_9 : decode cX3_goesBefore 9 = .ok (.aload_n 2, 1) := by decide +kernel
theorem dX3_goesBefore_10 : decode cX3_goesBefore 10 = .ok (.aload_n 0, 1) := by decide +kernel
theorem dX3_goesBefore_11 : decode cX3_goesBefore 11 = .ok (.getfield 111, 3) := by decide +kernel
theorem dX3_goesBefore_14 : decode cX3_goesBefore 14 = .ok (.invokevirtual 224, 3) := by decide +kernel
theorem dX3_goesBefore_17 : decode cX3_goesBefore 17 = .ok (.istore 4, 2) := by decide +kernel
theorem dX3_goesBefore_19 : decode cX3_goesBefore 19 = .ok (.iload_n 3, 1) := by decide +kernel
theorem dX3_goesBefore_20 : decode cX3_goesBefore 20 = .ok (.iload 4, 2) := by decide +kernel
theorem dX3_goesBefore_22 : decode cX3_goesBefore 22 = .ok (.if_icmp .eq 15, 3) := by decide +kernel
theorem dX3_goesBefore_25 : decode cX3_goesBefore 25 = .ok (.iload_n 3, 1) := by decide +kernel
theorem dX3_goesBefore_26 : decode cX3_goesBefore 26 = .ok (.iload 4, 2) := by decide +kernel
theorem dX3_goesBefore_28 : decode cX3_goesBefore 28 = .ok (.if_icmp .le 7, 3) := by decide +kernel
theorem dX3_goesBefore_31 : decode cX3_goesBefore 31 = .ok (.iconst 1, 1) := by decide +kernel
theorem dX3_goesBefore_32 : decode cX3_goesBefore 32 = .ok (.goto 4, 3) := by decide +kernel
theorem dX3_goesBefore_35 : decode cX3_goesBefore 35 = .ok (.iconst 0, 1) := by decide +kernel
theorem dX3_goesBefore_36 : decode cX3_goesBefore 36 = .ok (.ireturn, 1) := by decide +kernel
theorem dX3_goesBefore_37 : decode cX3_goesBefore 37 = .ok (.aload_n 1, 1) := by decide +kernel
theorem dX3_goesBefore_38 : decode cX3_goesBefore 38 = .ok (.getfield 121, 3) := by decide +kernel
theorem dX3_goesBefore_41 : decode cX3_goesBefore 41 = .ok (.aload_n 2, 1) := by decide +kernel
theorem dX3_goesBefore_42 : decode cX3_goesBefore 42 = .ok (.getfield 121, 3) := by decide +kernel
theorem dX3_goesBefore_45 : decode cX3_goesBefore 45 = .ok (.if_icmp .eq 20, 3) := by decide +kernel
theorem dX3_goesBefore_48 : decode cX3_goesBefore 48 = .ok (.aload_n 1, 1) := by decide +kernel
theorem dX3_goesBefore_49 : decode cX3_goesBefore 49 = .ok (.getfield 121, 3) := by decide +kernel
theorem dX3_goesBefore_52 : decode cX3_goesBefore 52 = .ok (.aload_n 2, 1) := by decide +kernel
theorem dX3_goesBefore_53 : decode cX3_goesBefore 53 = .ok (.getfield 121, 3) := by decide +kernel
theorem dX3_goesBefore_56 : decode cX3_goesBefore 56 = .ok (.if_icmp .le 7, 3) := by decide +kernel
theorem dX3_goesBefore_59 : decode cX3_goesBefore 59 = .ok (.iconst 1, 1) := by decide +kernel
theorem dX3_goesBefore_60 : decode cX3_goesBefore 60 = .ok (.goto 4, 3) := by decide +kernel
theorem dX3_goesBefore_63 : decode cX3_goesBefore 63 = .ok (.iconst 0, 1) := by decide +kernel
theorem dX3_goesBefore_64 : decode cX3_goesBefore 64 = .ok (.ireturn, 1) := by decide +kernel
theorem dX3_goesBefore_65 : decode cX3_goesBefore 65 = .ok (.aload_n 1, 1) := by decide +kernel
theorem dX3_goesBefore_66 : decode cX3_goesBefore 66 = .ok (.getfield 100, 3) := by decide +kernel
theorem dX3_goesBefore_69 : decode cX3_goesBefore 69 = .ok (.aload_n 2, 1) := by decide +kernel
theorem dX3_goesBefore_70 : decode cX3_goesBefore 70 = .ok (.getfield 100, 3) := by decide +kernel
theorem dX3_goesBefore_73 : decode cX3_goesBefore 73 = .ok (.if_icmp .ge 7, 3) := by decide +kernel
theorem dX3_goesBefore_76 : decode cX3_goesBefore 76 = .ok (.iconst 1, 1) := by decide +kernel
theorem dX3_goesBefore_77 : decode cX3_goesBefore 77 = .ok (.goto 4, 3) := by decide +kernel
theorem dX3_goesBefore_80 : decode cX3_goesBefore 80 = .ok (.iconst 0, 1) := by decide +kernel
theorem dX3_goesBefore_81 : decode cX3_goesBefore 81 = .ok (.ireturn, 1) := by decide +kernel
set_option maxRecDepth 20000 in
theorem ggX3_settle_X3_paceOf : GoodIn wsX3_settle wsX3_paceOf := goodIn_r _ [13, 14, 4, 7, 8, 15, 16, 17, 18, 19, 20, 12, 21, 35, 36, 37, 38, 39, 40, 41, 42, 43, 22, 23, 24, 25, 26, 27, 28, 29, 30, 31] (by decide +kernel) (by decide +kernel)
set_option maxRecDepth 20000 in
theorem gX3_settle_X3_paceOf : GoodIn wsX3_settle (wsV RX3 232 RX3 yX3_paceOf wsX3_paceOf) := goodIn_app (goodIn_of _ (by decide +kernel)) ggX3_settle_X3_paceOf
theorem dX3_settle_0 : decode cX3_settle 0 = .ok (.iload_n 2, 1) := by decide +kernel
theorem dX3_settle_1 : decode cX3_settle 1 = .ok (.iconst 2, 1) := by decide +kernel
theorem dX3_settle_2 : decode cX3_settle 2 = .ok (.if_icmp .ne 30, 3) := by decide +kernel
theorem dX3_settle_5 : decode cX3_settle 5 = .ok (.aload_n 1, 1) := by decide +kernel
theorem dX3_settle_6 : decode cX3_settle 6 = .ok (.getfield 162, 3) := by decide +kernel
theorem dX3_settle_9 : decode cX3_settle 9 = .ok (.dup, 1) := by decide +kernel
theorem dX3_settle_10 : decode cX3_settle 10 = .ok (.getfield 86, 3) := by decide +kernel
theorem dX3_settle_13 : decode cX3_settle 13 = .ok (.iconst 1, 1) := by decide +kernel
theorem dX3_settle_14 : decode cX3_settle 14 = .ok (.iadd, 1) := by decide +kernel
theorem dX3_settle_15 : decode cX3_settle 15 = .ok (.putfield 86, 3) := by decide +kernel
theorem dX3_settle_18 : decode cX3_settle 18 = .ok (.aload_n 1, 1) := by decide +kernel
theorem dX3_settle_19 : decode cX3_settle 19 = .ok (.aload_n 0, 1) := by decide +kernel
theorem dX3_settle_20 : decode cX3_settle 20 = .ok (.getfield 111, 3) := by decide +kernel
theorem dX3_settle_23 : decode cX3_settle 23 = .ok (.aload_n 0, 1) := by decide +kernel
theorem dX3_settle_24 : decode cX3_settle 24 = .ok (.getfield 29, 3) := by decide +kernel
theorem dX3_settle_27 : decode cX3_settle 27 = .ok (.iadd, 1) := by decide +kernel
theorem dX3_settle_28 : decode cX3_settle 28 = .ok (.putfield 127, 3) := by decide +kernel
theorem dX3_settle_31 : decode cX3_settle 31 = .ok (.return_, 1) := by decide +kernel
theorem dX3_settle_32 : decode cX3_settle 32 = .ok (.aload_n 1, 1) := by decide +kernel
theorem dX3_settle_33 : decode cX3_settle 33 = .ok (.getfield 162, 3) := by decide +kernel
theorem dX3_settle_36 : decode cX3_settle 36 = .ok (.iconst 0, 1) := by decide +kernel
theorem dX3_settle_37 : decode cX3_settle 37 = .ok (.putfield 86, 3) := by decide +kernel
theorem dX3_settle_40 : decode cX3_settle 40 = .ok (.iload_n 2, 1) := by decide +kernel
theorem dX3_settle_41 : decode cX3_settle 41 = .ok (.iconst 3, 1) := by decide +kernel
theorem dX3_settle_42 : decode cX3_settle 42 = .ok (.if_icmp .ne 9, 3) := by decide +kernel
theorem dX3_settle_45 : decode cX3_settle 45 = .ok (.aload_n 1, 1) := by decide +kernel
theorem dX3_settle_46 : decode cX3_settle 46 = .ok (.iconst 1, 1) := by decide +kernel
theorem dX3_settle_47 : decode cX3_settle 47 = .ok (.putfield 228, 3) := by decide +kernel
theorem dX3_settle_50 : decode cX3_settle 50 = .ok (.return_, 1) := by decide +kernel
theorem dX3_settle_51 : decode cX3_settle 51 = .ok (.aload_n 1, 1) := by decide +kernel
theorem dX3_settle_52 : decode cX3_settle 52 = .ok (.dup, 1) := by decide +kernel
theorem dX3_settle_53 : decode cX3_settle 53 = .ok (.getfield 130, 3) := by decide +kernel
theorem dX3_settle_56 : decode cX3_settle 56 = .ok (.iconst 1, 1) := by decide +kernel
theorem dX3_settle_57 : decode cX3_settle 57 = .ok (.iadd, 1) := by decide +kernel
theorem dX3_settle_58 : decode cX3_settle 58 = .ok (.putfield 130, 3) := by decide +kernel
theorem dX3_settle_61 : decode cX3_settle 61 = .ok (.aload_n 1, 1) := by decide +kernel
theorem dX3_settle_62 : decode cX3_settle 62 = .ok (.dup, 1) := by decide +kernel
theorem dX3_settle_63 : decode cX3_settle 63 = .ok (.getfield 133, 3) := by decide +kernel
theorem dX3_settle_66 : decode cX3_settle 66 = .ok (.iload_n 2, 1) := by decide +kernel
theorem dX3_settle_67 : decode cX3_settle 67 = .ok (.iconst 1, 1) := by decide +kernel
theorem dX3_settle_68 : decode cX3_settle 68 = .ok (.if_icmp .ne 7, 3) := by decide +kernel
theorem dX3_settle_71 : decode cX3_settle 71 = .ok (.iconst 1, 1) := by decide +kernel
theorem dX3_settle_72 : decode cX3_settle 72 = .ok (.goto 4, 3) := by decide +kernel
theorem dX3_settle_75 : decode cX3_settle 75 = .ok (.iconst 0, 1) := by decide +kernel
theorem dX3_settle_76 : decode cX3_settle 76 = .ok (.iadd, 1) := by decide +kernel
theorem dX3_settle_77 : decode cX3_settle 77 = .ok (.putfield 133, 3) := by decide +kernel
theorem dX3_settle_80 : decode cX3_settle 80 = .ok (.aload_n 1, 1) := by decide +kernel
theorem dX3_settle_81 : decode cX3_settle 81 = .ok (.aload_n 0, 1) := by decide +kernel
theorem dX3_settle_82 : decode cX3_settle 82 = .ok (.getfield 111, 3) := by decide +kernel
theorem dX3_settle_85 : decode cX3_settle 85 = .ok (.aload_n 0, 1) := by decide +kernel
theorem dX3_settle_86 : decode cX3_settle 86 = .ok (.aload_n 1, 1) := by decide +kernel
theorem dX3_settle_87 : decode cX3_settle 87 = .ok (.invokevirtual 232, 3) := by decide +kernel
theorem dX3_settle_90 : decode cX3_settle 90 = .ok (.iadd, 1) := by decide +kernel
theorem dX3_settle_91 : decode cX3_settle 91 = .ok (.putfield 127, 3) := by decide +kernel
theorem dX3_settle_94 : decode cX3_settle 94 = .ok (.return_, 1) := by decide +kernel
set_option maxRecDepth 20000 in
theorem ggX3_paceOf_X3_dividedUp : GoodIn wsX3_paceOf wsX3_dividedUp := goodIn_r _ [12] (by decide +kernel) (by decide +kernel)
set_option maxRecDepth 20000 in
theorem gX3_paceOf_X3_dividedUp : GoodIn wsX3_paceOf (va_wsS RX3 235 yX3_dividedUp wsX3_dividedUp) := goodIn_app (goodIn_of _ (by decide +kernel)) ggX3_paceOf_X3_dividedUp
theorem dX3_paceOf_0 : decode cX3_paceOf 0 = .ok (.aload_n 0, 1) := by decide +kernel
theorem dX3_paceOf_1 : decode cX3_paceOf 1 = .ok (.getfield 33, 3) := by decide +kernel
theorem dX3_paceOf_4 : decode cX3_paceOf 4 = .ok (.aload_n 0, 1) := by decide +kernel
theorem dX3_paceOf_5 : decode cX3_paceOf 5 = .ok (.getfield 29, 3) := by decide +kernel
theorem dX3_paceOf_8 : decode cX3_paceOf 8 = .ok (.aload_n 1, 1) := by decide +kernel
theorem dX3_paceOf_9 : decode cX3_paceOf 9 = .ok (.getfield 130, 3) := by decide +kernel
theorem dX3_paceOf_12 : decode cX3_paceOf 12 = .ok (.iconst 2, 1) := by decide +kernel
theorem dX3_paceOf_13 : decode cX3_paceOf 13 = .ok (.iadd, 1) := by decide +kernel
theorem dX3_paceOf_14 : decode cX3_paceOf 14 = .ok (.imul, 1) := by decide +kernel
theorem dX3_paceOf_15 : decode cX3_paceOf 15 = .ok (.aload_n 1, 1) := by decide +kernel
theorem dX3_paceOf_16 : decode cX3_paceOf 16 = .ok (.getfield 133, 3) := by decide +kernel
