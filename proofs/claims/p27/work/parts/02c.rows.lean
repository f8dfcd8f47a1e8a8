theorem dX0_init_0 : decode cX0_init 0 = .ok (.aload_n 0, 1) := by decide +kernel
theorem dX0_init_1 : decode cX0_init 1 = .ok (.invokespecial 3, 3) := by decide +kernel
theorem dX0_init_4 : decode cX0_init 4 = .ok (.aload_n 0, 1) := by decide +kernel
theorem dX0_init_5 : decode cX0_init 5 = .ok (.bipush 30, 2) := by decide +kernel
theorem dX0_init_7 : decode cX0_init 7 = .ok (.newarray .char, 2) := by decide +kernel
theorem dX0_init_9 : decode cX0_init 9 = .ok (.putfield 9, 3) := by decide +kernel
theorem dX0_init_12 : decode cX0_init 12 = .ok (.aload_n 0, 1) := by decide +kernel
theorem dX0_init_13 : decode cX0_init 13 = .ok (.bipush 30, 2) := by decide +kernel
theorem dX0_init_15 : decode cX0_init 15 = .ok (.newarray .int, 2) := by decide +kernel
theorem dX0_init_17 : decode cX0_init 17 = .ok (.putfield 15, 3) := by decide +kernel
theorem dX0_init_20 : decode cX0_init 20 = .ok (.return_, 1) := by decide +kernel
theorem dX0_init__0 : decode cX0_init_ 0 = .ok (.aload_n 0, 1) := by decide +kernel
theorem dX0_init__1 : decode cX0_init_ 1 = .ok (.invokespecial 3, 3) := by decide +kernel
theorem dX0_init__4 : decode cX0_init_ 4 = .ok (.aload_n 0, 1) := by decide +kernel
theorem dX0_init__5 : decode cX0_init_ 5 = .ok (.aload_n 1, 1) := by decide +kernel
theorem dX0_init__6 : decode cX0_init_ 6 = .ok (.getfield 9, 3) := by decide +kernel
theorem dX0_init__9 : decode cX0_init_ 9 = .ok (.invokevirtual 19, 3) := by decide +kernel
theorem dX0_init__12 : decode cX0_init_ 12 = .ok (.checkcast 20, 3) := by decide +kernel
theorem dX0_init__15 : decode cX0_init_ 15 = .ok (.putfield 9, 3) := by decide +kernel
theorem dX0_init__18 : decode cX0_init_ 18 = .ok (.aload_n 0, 1) := by decide +kernel
theorem dX0_init__19 : decode cX0_init_ 19 = .ok (.aload_n 1, 1) := by decide +kernel
theorem dX0_init__20 : decode cX0_init_ 20 = .ok (.getfield 15, 3) := by decide +kernel
theorem dX0_init__23 : decode cX0_init_ 23 = .ok (.invokevirtual 24, 3) := by decide +kernel
theorem dX0_init__26 : decode cX0_init_ 26 = .ok (.checkcast 25, 3) := by decide +kernel
theorem dX0_init__29 : decode cX0_init_ 29 = .ok (.putfield 15, 3) := by decide +kernel
theorem dX0_init__32 : decode cX0_init_ 32 = .ok (.aload_n 0, 1) := by decide +kernel
theorem dX0_init__33 : decode cX0_init_ 33 = .ok (.aload_n 1, 1) := by decide +kernel
theorem dX0_init__34 : decode cX0_init_ 34 = .ok (.getfield 26, 3) := by decide +kernel
theorem dX0_init__37 : decode cX0_init_ 37 = .ok (.putfield 26, 3) := by decide +kernel
theorem dX0_init__40 : decode cX0_init_ 40 = .ok (.aload_n 0, 1) := by decide +kernel
theorem dX0_init__41 : decode cX0_init_ 41 = .ok (.aload_n 1, 1) := by decide +kernel
theorem dX0_init__42 : decode cX0_init_ 42 = .ok (.getfield 30, 3) := by decide +kernel
theorem dX0_init__45 : decode cX0_init_ 45 = .ok (.putfield 30, 3) := by decide +kernel
theorem dX0_init__48 : decode cX0_init_ 48 = .ok (.return_, 1) := by decide +kernel
theorem dX0_isFull_0 : decode cX0_isFull 0 = .ok (.aload_n 0, 1) := by decide +kernel
theorem dX0_isFull_1 : decode cX0_isFull 1 = .ok (.getfield 26, 3) := by decide +kernel
theorem dX0_isFull_4 : decode cX0_isFull 4 = .ok (.aload_n 0, 1) := by decide +kernel
theorem dX0_isFull_5 : decode cX0_isFull 5 = .ok (.getfield 9, 3) := by decide +kernel
theorem dX0_isFull_8 : decode cX0_isFull 8 = .ok (.arraylength, 1) := by decide +kernel
theorem dX0_isFull_9 : decode cX0_isFull 9 = .ok (.if_icmp .lt 7, 3) := by decide +kernel
theorem dX0_isFull_12 : decode cX0_isFull 12 = .ok (.iconst 1, 1) := by decide +kernel
theorem dX0_isFull_13 : decode cX0_isFull 13 = .ok (.goto 4, 3) := by decide +kernel
theorem dX0_isFull_16 : decode cX0_isFull 16 = .ok (.iconst 0, 1) := by decide +kernel
theorem dX0_isFull_17 : decode cX0_isFull 17 = .ok (.ireturn, 1) := by decide +kernel
set_option maxRecDepth 20000 in
theorem ggX0_add_X0_at : GoodIn wsX0_add wsX0_at := goodIn_r _ [7, 1, 2, 14, 15, 16, 17] (by decide +kernel) (by decide +kernel)
set_option maxRecDepth 20000 in
theorem gX0_add_X0_at : GoodIn wsX0_add (wsV RX0 33 RX0 yX0_at wsX0_at) := goodIn_app (goodIn_of _ (by decide +kernel)) ggX0_add_X0_at
set_option maxRecDepth 20000 in
theorem ggX0_add_X0_startSegment : GoodIn wsX0_add wsX0_startSegment := goodIn_r _ [11, 12, 13, 1, 14, 15, 16, 17] (by decide +kernel) (by decide +kernel)
set_option maxRecDepth 20000 in
theorem gX0_add_X0_startSegment : GoodIn wsX0_add (wsV RX0 37 RX0 yX0_startSegment wsX0_startSegment) := goodIn_app (goodIn_of _ (by decide +kernel)) ggX0_add_X0_startSegment
theorem dX0_add_0 : decode cX0_add 0 = .ok (.aload_n 0, 1) := by decide +kernel
theorem dX0_add_1 : decode cX0_add 1 = .ok (.getfield 26, 3) := by decide +kernel
theorem dX0_add_4 : decode cX0_add 4 = .ok (.ifCond .lt 15, 3) := by decide +kernel
theorem dX0_add_7 : decode cX0_add 7 = .ok (.aload_n 0, 1) := by decide +kernel
theorem dX0_add_8 : decode cX0_add 8 = .ok (.getfield 26, 3) := by decide +kernel
theorem dX0_add_11 : decode cX0_add 11 = .ok (.aload_n 0, 1) := by decide +kernel
theorem dX0_add_12 : decode cX0_add 12 = .ok (.getfield 9, 3) := by decide +kernel
theorem dX0_add_15 : decode cX0_add 15 = .ok (.arraylength, 1) := by decide +kernel
theorem dX0_add_16 : decode cX0_add 16 = .ok (.if_icmp .lt 4, 3) := by decide +kernel
theorem dX0_add_19 : decode cX0_add 19 = .ok (.return_, 1) := by decide +kernel
theorem dX0_add_20 : decode cX0_add 20 = .ok (.iload_n 1, 1) := by decide +kernel
theorem dX0_add_21 : decode cX0_add 21 = .ok (.bipush 47, 2) := by decide +kernel
theorem dX0_add_23 : decode cX0_add 23 = .ok (.if_icmp .eq 22, 3) := by decide +kernel
theorem dX0_add_26 : decode cX0_add 26 = .ok (.aload_n 0, 1) := by decide +kernel
theorem dX0_add_27 : decode cX0_add 27 = .ok (.aload_n 0, 1) := by decide +kernel
theorem dX0_add_28 : decode cX0_add 28 = .ok (.getfield 26, 3) := by decide +kernel
theorem dX0_add_31 : decode cX0_add 31 = .ok (.iconst 1, 1) := by decide +kernel
theorem dX0_add_32 : decode cX0_add 32 = .ok (.isub, 1) := by decide +kernel
theorem dX0_add_33 : decode cX0_add 33 = .ok (.invokevirtual 33, 3) := by decide +kernel
theorem dX0_add_36 : decode cX0_add 36 = .ok (.bipush 47, 2) := by decide +kernel
theorem dX0_add_38 : decode cX0_add 38 = .ok (.if_icmp .ne 7, 3) := by decide +kernel
theorem dX0_add_41 : decode cX0_add 41 = .ok (.aload_n 0, 1) := by decide +kernel
theorem dX0_add_42 : decode cX0_add 42 = .ok (.invokevirtual 37, 3) := by decide +kernel
theorem dX0_add_45 : decode cX0_add 45 = .ok (.aload_n 0, 1) := by decide +kernel
theorem dX0_add_46 : decode cX0_add 46 = .ok (.getfield 9, 3) := by decide +kernel
theorem dX0_add_49 : decode cX0_add 49 = .ok (.aload_n 0, 1) := by decide +kernel
theorem dX0_add_50 : decode cX0_add 50 = .ok (.getfield 26, 3) := by decide +kernel
theorem dX0_add_53 : decode cX0_add 53 = .ok (.iload_n 1, 1) := by decide +kernel
theorem dX0_add_54 : decode cX0_add 54 = .ok (.castore, 1) := by decide +kernel
theorem dX0_add_55 : decode cX0_add 55 = .ok (.aload_n 0, 1) := by decide +kernel
theorem dX0_add_56 : decode cX0_add 56 = .ok (.dup, 1) := by decide +kernel
theorem dX0_add_57 : decode cX0_add 57 = .ok (.getfield 26, 3) := by decide +kernel
theorem dX0_add_60 : decode cX0_add 60 = .ok (.iconst 1, 1) := by decide +kernel
theorem dX0_add_61 : decode cX0_add 61 = .ok (.iadd, 1) := by decide +kernel
theorem dX0_add_62 : decode cX0_add 62 = .ok (.putfield 26, 3) := by decide +kernel
theorem dX0_add_65 : decode cX0_add 65 = .ok (.return_, 1) := by decide +kernel
theorem dX0_empty_0 : decode cX0_empty 0 = .ok (.aload_n 0, 1) := by decide +kernel
theorem dX0_empty_1 : decode cX0_empty 1 = .ok (.iconst 0, 1) := by decide +kernel
theorem dX0_empty_2 : decode cX0_empty 2 = .ok (.putfield 26, 3) := by decide +kernel
theorem dX0_empty_5 : decode cX0_empty 5 = .ok (.aload_n 0, 1) := by decide +kernel
theorem dX0_empty_6 : decode cX0_empty 6 = .ok (.iconst 0, 1) := by decide +kernel
theorem dX0_empty_7 : decode cX0_empty 7 = .ok (.putfield 30, 3) := by decide +kernel
theorem dX0_empty_10 : decode cX0_empty 10 = .ok (.return_, 1) := by decide +kernel
theorem dX0_at_0 : decode cX0_at 0 = .ok (.iload_n 1, 1) := by decide +kernel
theorem dX0_at_1 : decode cX0_at 1 = .ok (.ifCond .lt 24, 3) := by decide +kernel
theorem dX0_at_4 : decode cX0_at 4 = .ok (.iload_n 1, 1) := by decide +kernel
theorem dX0_at_5 : decode cX0_at 5 = .ok (.aload_n 0, 1) := by decide +kernel
theorem dX0_at_6 : decode cX0_at 6 = .ok (.getfield 26, 3) := by decide +kernel
theorem dX0_at_9 : decode cX0_at 9 = .ok (.if_icmp .ge 16, 3) := by decide +kernel
theorem dX0_at_12 : decode cX0_at 12 = .ok (.iload_n 1, 1) := by decide +kernel
theorem dX0_at_13 : decode cX0_at 13 = .ok (.aload_n 0, 1) := by decide +kernel
theorem dX0_at_14 : decode cX0_at 14 = .ok (.getfield 9, 3) := by decide +kernel
theorem dX0_at_17 : decode cX0_at 17 = .ok (.arraylength, 1) := by decide +kernel
theorem dX0_at_18 : decode cX0_at 18 = .ok (.if_icmp .ge 7, 3) := by decide +kernel
theorem dX0_at_21 : decode cX0_at 21 = .ok (.iconst 1, 1) := by decide +kernel
theorem dX0_at_22 : decode cX0_at 22 = .ok (.goto 4, 3) := by decide +kernel
theorem dX0_at_25 : decode cX0_at 25 = .ok (.iconst 0, 1) := by decide +kernel
theorem dX0_at_26 : decode cX0_at 26 = .ok (.istore_n 2, 1) := by decide +kernel
theorem dX0_at_27 : decode cX0_at 27 = .ok (.iload_n 2, 1) := by decide +kernel
theorem dX0_at_28 : decode cX0_at 28 = .ok (.ifCond .eq 12, 3) := by decide +kernel
theorem dX0_at_31 : decode cX0_at 31 = .ok (.aload_n 0, 1) := by decide +kernel
theorem dX0_at_32 : decode cX0_at 32 = .ok (.getfield 9, 3) := by decide +kernel
theorem dX0_at_35 : decode cX0_at 35 = .ok (.iload_n 1, 1) := by decide +kernel
theorem dX0_at_36 : decode cX0_at 36 = .ok (.caload, 1) := by decide +kernel
theorem dX0_at_37 : decode cX0_at 37 = .ok (.goto 5, 3) := by decide +kernel
theorem dX0_at_40 : decode cX0_at 40 = .ok (.bipush 47, 2) := by decide +kernel
theorem dX0_at_42 : decode cX0_at 42 = .ok (.ireturn, 1) := by decide +kernel
set_option maxRecDepth 20000 in
theorem ggX0_isSameAs_X0_at : GoodIn wsX0_isSameAs wsX0_at := goodIn_r _ [6, 1, 7, 8, 9, 10, 11] (by decide +kernel) (by decide +kernel)
set_option maxRecDepth 20000 in
theorem gX0_isSameAs_X0_at : GoodIn wsX0_isSameAs (wsV RX0 33 RX0 yX0_at wsX0_at) := goodIn_app (goodIn_of _ (by decide +kernel)) ggX0_isSameAs_X0_at
theorem dX0_isSameAs_0 : decode cX0_isSameAs 0 = .ok (.aload_n 0, 1) := by decide +kernel
theorem dX0_isSameAs_1 : decode cX0_isSameAs 1 = .ok (.getfield 26, 3) := by decide +kernel
theorem dX0_isSameAs_4 : decode cX0_isSameAs 4 = .ok (.aload_n 1, 1) := by decide +kernel
theorem dX0_isSameAs_5 : decode cX0_isSameAs 5 = .ok (.getfield 26, 3) := by decide +kernel
theorem dX0_isSameAs_8 : decode cX0_isSameAs 8 = .ok (.if_icmp .eq 5, 3) := by decide +kernel
theorem dX0_isSameAs_11 : decode cX0_isSameAs 11 = .ok (.iconst 0, 1) := by decide +kernel
theorem dX0_isSameAs_12 : decode cX0_isSameAs 12 = .ok (.ireturn, 1) := by decide +kernel
theorem dX0_isSameAs_13 : decode cX0_isSameAs 13 = .ok (.iconst 0, 1) := by decide +kernel
theorem dX0_isSameAs_14 : decode cX0_isSameAs 14 = .ok (.istore_n 2, 1) := by decide +kernel
theorem dX0_isSameAs_15 : decode cX0_isSameAs 15 = .ok (.iload_n 2, 1) := by decide +kernel
theorem dX0_isSameAs_16 : decode cX0_isSameAs 16 = .ok (.aload_n 0, 1) := by decide +kernel
theorem dX0_isSameAs_17 : decode cX0_isSameAs 17 = .ok (.getfield 26, 3) := by decide +kernel
theorem dX0_isSameAs_20 : decode cX0_isSameAs 20 = .ok (.if_icmp .ge 24, 3) := by decide +kernel
theorem dX0_isSameAs_23 : decode cX0_isSameAs 23 = .ok (.aload_n 0, 1) := by decide +kernel
theorem dX0_isSameAs_24 : decode cX0_isSameAs 24 = .ok (.iload_n 2, 1) := by decide +kernel
theorem dX0_isSameAs_25 : decode cX0_isSameAs 25 = .ok (.invokevirtual 33, 3) := by decide +kernel
theorem dX0_isSameAs_28 : decode cX0_isSameAs 28 = .ok (.aload_n 1, 1) := by decide +kernel
theorem dX0_isSameAs_29 : decode cX0_isSameAs 29 = .ok (.iload_n 2, 1) := by decide +kernel
theorem dX0_isSameAs_30 : decode cX0_isSameAs 30 = .ok (.invokevirtual 33, 3) := by decide +kernel
theorem dX0_isSameAs_33 : decode cX0_isSameAs 33 = .ok (.if_icmp .eq 5, 3) := by decide +kernel
theorem dX0_isSameAs_36 : decode cX0_isSameAs 36 = .ok (.iconst 0, 1) := by decide +kernel
theorem dX0_isSameAs_37 : decode cX0_isSameAs 37 = .ok (.ireturn, 1) := by decide +kernel
theorem dX0_isSameAs_38 : decode cX0_isSameAs 38 = .ok (.iinc 2 1, 3) := by decide +kernel
theorem dX0_isSameAs_41 : decode cX0_isSameAs 41 = .ok (.goto (-26), 3) := by decide +kernel
theorem dX0_isSameAs_44 : decode cX0_isSameAs 44 = .ok (.iconst 1, 1) := by decide +kernel
theorem dX0_isSameAs_45 : decode cX0_isSameAs 45 = .ok (.ireturn, 1) := by decide +kernel
set_option maxRecDepth 20000 in
theorem ggX0_repeatsItself_X0_comesThrice : GoodIn wsX0_repeatsItself wsX0_comesThrice := goodIn_r _ [5, 6, 7, 8, 9, 4, 10, 11, 12, 13, 14, 15, 16, 17, 18, 19, 20, 21, 22, 23, 24, 25] (by decide +kernel) (by decide +kernel)
set_option maxRecDepth 20000 in
theorem gX0_repeatsItself_X0_comesThrice : GoodIn wsX0_repeatsItself (wsV RX0 40 RX0 yX0_comesThrice wsX0_comesThrice) := goodIn_app (goodIn_of _ (by decide +kernel)) ggX0_repeatsItself_X0_comesThrice
theorem dX0_repeatsItself_0 : decode cX0_repeatsItself 0 = .ok (.iconst 1, 1) := by decide +kernel
theorem dX0_repeatsItself_1 : decode cX0_repeatsItself 1 = .ok (.istore_n 1, 1) := by decide +kernel
theorem dX0_repeatsItself_2 : decode cX0_repeatsItself 2 = .ok (.iload_n 1, 1) := by decide +kernel
theorem dX0_repeatsItself_3 : decode cX0_repeatsItself 3 = .ok (.iconst 3, 1) := by decide +kernel
theorem dX0_repeatsItself_4 : decode cX0_repeatsItself 4 = .ok (.if_icmp .gt 19, 3) := by decide +kernel
theorem dX0_repeatsItself_7 : decode cX0_repeatsItself 7 = .ok (.aload_n 0, 1) := by decide +kernel
theorem dX0_repeatsItself_8 : decode cX0_repeatsItself 8 = .ok (.iload_n 1, 1) := by decide +kernel
theorem dX0_repeatsItself_9 : decode cX0_repeatsItself 9 = .ok (.invokevirtual 40, 3) := by decide +kernel
theorem dX0_repeatsItself_12 : decode cX0_repeatsItself 12 = .ok (.ifCond .eq 5, 3) := by decide +kernel
theorem dX0_repeatsItself_15 : decode cX0_repeatsItself 15 = .ok (.iconst 1, 1) := by decide +kernel
theorem dX0_repeatsItself_16 : decode cX0_repeatsItself 16 = .ok (.ireturn, 1) := by decide +kernel
theorem dX0_repeatsItself_17 : decode cX0_repeatsItself 17 = .ok (.iinc 1 1, 3) := by decide +kernel
theorem dX0_repeatsItself_20 : decode cX0_repeatsItself 20 = .ok (.goto (-18), 3) := by decide +kernel
theorem dX0_repeatsItself_23 : decode cX0_repeatsItself 23 = .ok (.iconst 0, 1) := by decide +kernel
theorem dX0_repeatsItself_24 : decode cX0_repeatsItself 24 = .ok (.ireturn, 1) := by decide +kernel
set_option maxRecDepth 20000 in
theorem ggX0_comesThrice_X0_hasSameSegments : GoodIn wsX0_comesThrice wsX0_hasSameSegments := goodIn_r _ [6, 7, 8, 9, 10, 5, 11, 12, 13, 14, 15, 16, 17, 18, 19, 20, 21] (by decide +kernel) (by decide +kernel)
set_option maxRecDepth 20000 in
theorem gX0_comesThrice_X0_hasSameSegments : GoodIn wsX0_comesThrice (wsV RX0 44 RX0 yX0_hasSameSegments wsX0_hasSameSegments) := goodIn_app (goodIn_of _ (by decide +kernel)) ggX0_comesThrice_X0_hasSameSegments
theorem dX0_comesThrice_0 : decode cX0_comesThrice 0 = .ok (.iconst 0, 1) := by decide +kernel
theorem dX0_comesThrice_1 : decode cX0_comesThrice 1 = .ok (.istore_n 2, 1) := by decide +kernel
theorem dX0_comesThrice_2 : decode cX0_comesThrice 2 = .ok (.iconst 0, 1) := by decide +kernel
theorem dX0_comesThrice_3 : decode cX0_comesThrice 3 = .ok (.istore_n 3, 1) := by decide +kernel
theorem dX0_comesThrice_4 : decode cX0_comesThrice 4 = .ok (.iload_n 3, 1) := by decide +kernel
theorem dX0_comesThrice_5 : decode cX0_comesThrice 5 = .ok (.iload_n 1, 1) := by decide +kernel
theorem dX0_comesThrice_6 : decode cX0_comesThrice 6 = .ok (.iadd, 1) := by decide +kernel
theorem dX0_comesThrice_7 : decode cX0_comesThrice 7 = .ok (.aload_n 0, 1) := by decide +kernel
theorem dX0_comesThrice_8 : decode cX0_comesThrice 8 = .ok (.getfield 30, 3) := by decide +kernel
theorem dX0_comesThrice_11 : decode cX0_comesThrice 11 = .ok (.if_icmp .ge 37, 3) := by decide +kernel
theorem dX0_comesThrice_14 : decode cX0_comesThrice 14 = .ok (.aload_n 0, 1) := by decide +kernel
theorem dX0_comesThrice_15 : decode cX0_comesThrice 15 = .ok (.iload_n 3, 1) := by decide +kernel
theorem dX0_comesThrice_16 : decode cX0_comesThrice 16 = .ok (.iload_n 3, 1) := by decide +kernel
theorem dX0_comesThrice_17 : decode cX0_comesThrice 17 = .ok (.iload_n 1, 1) := by decide +kernel
theorem dX0_comesThrice_18 : decode cX0_comesThrice 18 = .ok (.iadd, 1) := by decide +kernel
theorem dX0_comesThrice_19 : decode cX0_comesThrice 19 = .ok (.invokevirtual 44, 3) := by decide +kernel
theorem dX0_comesThrice_22 : decode cX0_comesThrice 22 = .ok (.ifCond .eq 9, 3) := by decide +kernel
theorem dX0_comesThrice_25 : decode cX0_comesThrice 25 = .ok (.iload_n 2, 1) := by decide +kernel
theorem dX0_comesThrice_26 : decode cX0_comesThrice 26 = .ok (.iconst 1, 1) := by decide +kernel
theorem dX0_comesThrice_27 : decode cX0_comesThrice 27 = .ok (.iadd, 1) := by decide +kernel
theorem dX0_comesThrice_28 : decode cX0_comesThrice 28 = .ok (.goto 4, 3) := by decide +kernel
theorem dX0_comesThrice_31 : decode cX0_comesThrice 31 = .ok (.iconst 0, 1) := by decide +kernel
theorem dX0_comesThrice_32 : decode cX0_comesThrice 32 = .ok (.istore_n 2, 1) := by decide +kernel
theorem dX0_comesThrice_33 : decode cX0_comesThrice 33 = .ok (.iload_n 2, 1) := by decide +kernel
theorem dX0_comesThrice_34 : decode cX0_comesThrice 34 = .ok (.iconst 2, 1) := by decide +kernel
theorem dX0_comesThrice_35 : decode cX0_comesThrice 35 = .ok (.iload_n 1, 1) := by decide +kernel
theorem dX0_comesThrice_36 : decode cX0_comesThrice 36 = .ok (.imul, 1) := by decide +kernel
theorem dX0_comesThrice_37 : decode cX0_comesThrice 37 = .ok (.if_icmp .ne 5, 3) := by decide +kernel
theorem dX0_comesThrice_40 : decode cX0_comesThrice 40 = .ok (.iconst 1, 1) := by decide +kernel
theorem dX0_comesThrice_41 : decode cX0_comesThrice 41 = .ok (.ireturn, 1) := by decide +kernel
theorem dX0_comesThrice_42 : decode cX0_comesThrice 42 = .ok (.iinc 3 1, 3) := by decide +kernel
theorem dX0_comesThrice_45 : decode cX0_comesThrice 45 = .ok (.goto (-41), 3) := by decide +kernel
theorem dX0_comesThrice_48 : decode cX0_comesThrice 48 = .ok (.iconst 0, 1) := by decide +kernel
theorem dX0_comesThrice_49 : decode cX0_comesThrice 49 = .ok (.ireturn, 1) := by decide +kernel
set_option maxRecDepth 20000 in
theorem ggX0_hasSameSegments_X0_startOf : GoodIn wsX0_hasSameSegments wsX0_startOf := goodIn_r _ [6, 7, 1, 13, 14, 15, 16] (by decide +kernel) (by decide +kernel)
set_option maxRecDepth 20000 in
theorem gX0_hasSameSegments_X0_startOf : GoodIn wsX0_hasSameSegments (wsV RX0 48 RX0 yX0_startOf wsX0_startOf) := goodIn_app (goodIn_of _ (by decide +kernel)) ggX0_hasSameSegments_X0_startOf
set_option maxRecDepth 20000 in
theorem ggX0_hasSameSegments_X0_at : GoodIn wsX0_hasSameSegments wsX0_at := goodIn_r _ [11, 1, 12, 13, 14, 15, 16] (by decide +kernel) (by decide +kernel)
set_option maxRecDepth 20000 in
theorem gX0_hasSameSegments_X0_at : GoodIn wsX0_hasSameSegments (wsV RX0 33 RX0 yX0_at wsX0_at) := goodIn_app (goodIn_of _ (by decide +kernel)) ggX0_hasSameSegments_X0_at
theorem dX0_hasSameSegments_0 : decode cX0_hasSameSegments 0 = .ok (.aload_n 0, 1) := by decide +kernel
theorem dX0_hasSameSegments_1 : decode cX0_hasSameSegments 1 = .ok (.iload_n 1, 1) := by decide +kernel
theorem dX0_hasSameSegments_2 : decode cX0_hasSameSegments 2 = .ok (.invokevirtual 48, 3) := by decide +kernel
theorem dX0_hasSameSegments_5 : decode cX0_hasSameSegments 5 = .ok (.istore_n 3, 1) := by decide +kernel
theorem dX0_hasSameSegments_6 : decode cX0_hasSameSegments 6 = .ok (.aload_n 0, 1) := by decide +kernel
theorem dX0_hasSameSegments_7 : decode cX0_hasSameSegments 7 = .ok (.iload_n 2, 1) := by decide +kernel
theorem dX0_hasSameSegments_8 : decode cX0_hasSameSegments 8 = .ok (.invokevirtual 48, 3) := by decide +kernel
theorem dX0_hasSameSegments_11 : decode cX0_hasSameSegments 11 = .ok (.istore 4, 2) := by decide +kernel
theorem dX0_hasSameSegments_13 : decode cX0_hasSameSegments 13 = .ok (.iconst 0, 1) := by decide +kernel
theorem dX0_hasSameSegments_14 : decode cX0_hasSameSegments 14 = .ok (.istore 5, 2) := by decide +kernel
theorem dX0_hasSameSegments_16 : decode cX0_hasSameSegments 16 = .ok (.iload 5, 2) := by decide +kernel
theorem dX0_hasSameSegments_18 : decode cX0_hasSameSegments 18 = .ok (.aload_n 0, 1) := by decide +kernel
theorem dX0_hasSameSegments_19 : decode cX0_hasSameSegments 19 = .ok (.getfield 26, 3) := by decide +kernel
theorem dX0_hasSameSegments_22 : decode cX0_hasSameSegments 22 = .ok (.if_icmp .ge 44, 3) := by decide +kernel
theorem dX0_hasSameSegments_25 : decode cX0_hasSameSegments 25 = .ok (.aload_n 0, 1) := by decide +kernel
theorem dX0_hasSameSegments_26 : decode cX0_hasSameSegments 26 = .ok (.iload_n 3, 1) := by decide +kernel
theorem dX0_hasSameSegments_27 : decode cX0_hasSameSegments 27 = .ok (.iload 5, 2) := by decide +kernel
theorem dX0_hasSameSegments_29 : decode cX0_hasSameSegments 29 = .ok (.iadd, 1) := by decide +kernel
theorem dX0_hasSameSegments_30 : decode cX0_hasSameSegments 30 = .ok (.invokevirtual 33, 3) := by decide +kernel
theorem dX0_hasSameSegments_33 : decode cX0_hasSameSegments 33 = .ok (.istore 6, 2) := by decide +kernel
theorem dX0_hasSameSegments_35 : decode cX0_hasSameSegments 35 = .ok (.iload 6, 2) := by decide +kernel
theorem dX0_hasSameSegments_37 : decode cX0_hasSameSegments 37 = .ok (.aload_n 0, 1) := by decide +kernel
theorem dX0_hasSameSegments_38 : decode cX0_hasSameSegments 38 = .ok (.iload 4, 2) := by decide +kernel
theorem dX0_hasSameSegments_40 : decode cX0_hasSameSegments 40 = .ok (.iload 5, 2) := by decide +kernel
theorem dX0_hasSameSegments_42 : decode cX0_hasSameSegments 42 = .ok (.iadd, 1) := by decide +kernel
theorem dX0_hasSameSegments_43 : decode cX0_hasSameSegments 43 = .ok (.invokevirtual 33, 3) := by decide +kernel
theorem dX0_hasSameSegments_46 : decode cX0_hasSameSegments 46 = .ok (.if_icmp .eq 5, 3) := by decide +kernel
theorem dX0_hasSameSegments_49 : decode cX0_hasSameSegments 49 = .ok (.iconst 0, 1) := by decide +kernel
theorem dX0_hasSameSegments_50 : decode cX0_hasSameSegments 50 = .ok (.ireturn, 1) := by decide +kernel
theorem dX0_hasSameSegments_51 : decode cX0_hasSameSegments 51 = .ok (.iload 6, 2) := by decide +kernel
theorem dX0_hasSameSegments_53 : decode cX0_hasSameSegments 53 = .ok (.bipush 47, 2) := by decide +kernel
theorem dX0_hasSameSegments_55 : decode cX0_hasSameSegments 55 = .ok (.if_icmp .ne 5, 3) := by decide +kernel
theorem dX0_hasSameSegments_58 : decode cX0_hasSameSegments 58 = .ok (.iconst 1, 1) := by decide +kernel
theorem dX0_hasSameSegments_59 : decode cX0_hasSameSegments 59 = .ok (.ireturn, 1) := by decide +kernel
theorem dX0_hasSameSegments_60 : decode cX0_hasSameSegments 60 = .ok (.iinc 5 1, 3) := by decide +kernel
theorem dX0_hasSameSegments_63 : decode cX0_hasSameSegments 63 = .ok (.goto (-47), 3) := by decide +kernel
theorem dX0_hasSameSegments_66 : decode cX0_hasSameSegments 66 = .ok (.iconst 1, 1) := by decide +kernel
theorem dX0_hasSameSegments_67 : decode cX0_hasSameSegments 67 = .ok (.ireturn, 1) := by decide +kernel
theorem dX0_startOf_0 : decode cX0_startOf 0 = .ok (.iload_n 1, 1) := by decide +kernel
theorem dX0_startOf_1 : decode cX0_startOf 1 = .ok (.ifCond .lt 21, 3) := by decide +kernel
theorem dX0_startOf_4 : decode cX0_startOf 4 = .ok (.iload_n 1, 1) := by decide +kernel
theorem dX0_startOf_5 : decode cX0_startOf 5 = .ok (.aload_n 0, 1) := by decide +kernel
theorem dX0_startOf_6 : decode cX0_startOf 6 = .ok (.getfield 15, 3) := by decide +kernel
theorem dX0_startOf_9 : decode cX0_startOf 9 = .ok (.arraylength, 1) := by decide +kernel
theorem dX0_startOf_10 : decode cX0_startOf 10 = .ok (.if_icmp .ge 12, 3) := by decide +kernel
theorem dX0_startOf_13 : decode cX0_startOf 13 = .ok (.aload_n 0, 1) := by decide +kernel
theorem dX0_startOf_14 : decode cX0_startOf 14 = .ok (.getfield 15, 3) := by decide +kernel
theorem dX0_startOf_17 : decode cX0_startOf 17 = .ok (.iload_n 1, 1) := by decide +kernel
theorem dX0_startOf_18 : decode cX0_startOf 18 = .ok (.iaload, 1) := by decide +kernel
theorem dX0_startOf_19 : decode cX0_startOf 19 = .ok (.goto 7, 3) := by decide +kernel
theorem dX0_startOf_22 : decode cX0_startOf 22 = .ok (.aload_n 0, 1) := by decide +kernel
theorem dX0_startOf_23 : decode cX0_startOf 23 = .ok (.getfield 26, 3) := by decide +kernel
theorem dX0_startOf_26 : decode cX0_startOf 26 = .ok (.ireturn, 1) := by decide +kernel
theorem dX0_startSegment_0 : decode cX0_startSegment 0 = .ok (.aload_n 0, 1) := by decide +kernel
theorem dX0_startSegment_1 : decode cX0_startSegment 1 = .ok (.getfield 30, 3) := by decide +kernel
theorem dX0_startSegment_4 : decode cX0_startSegment 4 = .ok (.ifCond .lt 38, 3) := by decide +kernel
theorem dX0_startSegment_7 : decode cX0_startSegment 7 = .ok (.aload_n 0, 1) := by decide +kernel
theorem dX0_startSegment_8 : decode cX0_startSegment 8 = .ok (.getfield 30, 3) := by decide +kernel
theorem dX0_startSegment_11 : decode cX0_startSegment 11 = .ok (.aload_n 0, 1) := by decide +kernel
theorem dX0_startSegment_12 : decode cX0_startSegment 12 = .ok (.getfield 15, 3) := by decide +kernel
theorem dX0_startSegment_15 : decode cX0_startSegment 15 = .ok (.arraylength, 1) := by decide +kernel
theorem dX0_startSegment_16 : decode cX0_startSegment 16 = .ok (.if_icmp .ge 26, 3) := by decide +kernel
theorem dX0_startSegment_19 : decode cX0_startSegment 19 = .ok (.aload_n 0, 1) := by decide +kernel
theorem dX0_startSegment_20 : decode cX0_startSegment 20 = .ok (.getfield 15, 3) := by decide +kernel
theorem dX0_startSegment_23 : decode cX0_startSegment 23 = .ok (.aload_n 0, 1) := by decide +kernel
theorem dX0_startSegment_24 : decode cX0_startSegment 24 = .ok (.getfield 30, 3) := by decide +kernel
theorem dX0_startSegment_27 : decode cX0_startSegment 27 = .ok (.aload_n 0, 1) := by decide +kernel
theorem dX0_startSegment_28 : decode cX0_startSegment 28 = .ok (.getfield 26, 3) := by decide +kernel
theorem dX0_startSegment_31 : decode cX0_startSegment 31 = .ok (.iastore, 1) := by decide +kernel
theorem dX0_startSegment_32 : decode cX0_startSegment 32 = .ok (.aload_n 0, 1) := by decide +kernel
theorem dX0_startSegment_33 : decode cX0_startSegment 33 = .ok (.dup, 1) := by decide +kernel
theorem dX0_startSegment_34 : decode cX0_startSegment 34 = .ok (.getfield 30, 3) := by decide +kernel
theorem dX0_startSegment_37 : decode cX0_startSegment 37 = .ok (.iconst 1, 1) := by decide +kernel
theorem dX0_startSegment_38 : decode cX0_startSegment 38 = .ok (.iadd, 1) := by decide +kernel
theorem dX0_startSegment_39 : decode cX0_startSegment 39 = .ok (.putfield 30, 3) := by decide +kernel
theorem dX0_startSegment_42 : decode cX0_startSegment 42 = .ok (.return_, 1) := by decide +kernel
theorem dX1_init_0 : decode cX1_init 0 = .ok (.aload_n 0, 1) := by decide +kernel
theorem dX1_init_1 : decode cX1_init 1 = .ok (.invokespecial 3, 3) := by decide +kernel
theorem dX1_init_4 : decode cX1_init 4 = .ok (.aload_n 0, 1) := by decide +kernel
theorem dX1_init_5 : decode cX1_init 5 = .ok (.iconst 5, 1) := by decide +kernel
theorem dX1_init_6 : decode cX1_init 6 = .ok (.putfield 9, 3) := by decide +kernel
theorem dX1_init_9 : decode cX1_init 9 = .ok (.return_, 1) := by decide +kernel
theorem dX1_restFrom_0 : decode cX1_restFrom 0 = .ok (.aload_n 0, 1) := by decide +kernel
theorem dX1_restFrom_1 : decode cX1_restFrom 1 = .ok (.iload_n 1, 1) := by decide +kernel
theorem dX1_restFrom_2 : decode cX1_restFrom 2 = .ok (.aload_n 0, 1) := by decide +kernel
theorem dX1_restFrom_3 : decode cX1_restFrom 3 = .ok (.getfield 9, 3) := by decide +kernel
theorem dX1_restFrom_6 : decode cX1_restFrom 6 = .ok (.aload_n 0, 1) := by decide +kernel
theorem dX1_restFrom_7 : decode cX1_restFrom 7 = .ok (.getfield 15, 3) := by decide +kernel
theorem dX1_restFrom_10 : decode cX1_restFrom 10 = .ok (.iconst 5, 1) := by decide +kernel
theorem dX1_restFrom_11 : decode cX1_restFrom 11 = .ok (.invokestatic 18, 3) := by decide +kernel
theorem dX1_restFrom_14 : decode cX1_restFrom 14 = .ok (.ishl, 1) := by decide +kernel
theorem dX1_restFrom_15 : decode cX1_restFrom 15 = .ok (.iadd, 1) := by decide +kernel
theorem dX1_restFrom_16 : decode cX1_restFrom 16 = .ok (.putfield 24, 3) := by decide +kernel
theorem dX1_restFrom_19 : decode cX1_restFrom 19 = .ok (.return_, 1) := by decide +kernel
set_option maxRecDepth 20000 in
theorem ggX2_init_X0_repeatsItself : GoodIn wsX2_init wsX0_repeatsItself := goodIn_r _ [14, 15, 16, 17, 13, 18, 19, 20, 21, 22, 23, 24, 25, 26, 27, 28, 29, 30, 31, 32, 33, 34, 45, 46, 47, 48] (by decide +kernel) (by decide +kernel)
set_option maxRecDepth 20000 in
theorem gX2_init_X0_repeatsItself : GoodIn wsX2_init (wsV RX2 23 RX0 yX0_repeatsItself wsX0_repeatsItself) := goodIn_app (goodIn_of _ (by decide +kernel)) ggX2_init_X0_repeatsItself
theorem dX2_init_0 : decode cX2_init 0 = .ok (.aload_n 0, 1) := by decide +kernel
theorem dX2_init_1 : decode cX2_init 1 = .ok (.invokespecial 3, 3) := by decide +kernel
theorem dX2_init_4 : decode cX2_init 4 = .ok (.aload_n 0, 1) := by decide +kernel
theorem dX2_init_5 : decode cX2_init 5 = .ok (.iload_n 1, 1) := by decide +kernel
theorem dX2_init_6 : decode cX2_init 6 = .ok (.putfield 9, 3) := by decide +kernel
theorem dX2_init_9 : decode cX2_init 9 = .ok (.aload_n 0, 1) := by decide +kernel
theorem dX2_init_10 : decode cX2_init 10 = .ok (.aload_n 2, 1) := by decide +kernel
theorem dX2_init_11 : decode cX2_init 11 = .ok (.putfield 15, 3) := by decide +kernel
theorem dX2_init_14 : decode cX2_init 14 = .ok (.aload_n 0, 1) := by decide +kernel
theorem dX2_init_15 : decode cX2_init 15 = .ok (.aload_n 3, 1) := by decide +kernel
theorem dX2_init_16 : decode cX2_init 16 = .ok (.putfield 19, 3) := by decide +kernel
theorem dX2_init_19 : decode cX2_init 19 = .ok (.aload_n 0, 1) := by decide +kernel
theorem dX2_init_20 : decode cX2_init 20 = .ok (.aload_n 3, 1) := by decide +kernel
theorem dX2_init_21 : decode cX2_init 21 = .ok (.invokevirtual 23, 3) := by decide +kernel
theorem dX2_init_24 : decode cX2_init 24 = .ok (.putfield 29, 3) := by decide +kernel
theorem dX2_init_27 : decode cX2_init 27 = .ok (.aload_n 0, 1) := by decide +kernel
theorem dX2_init_28 : decode cX2_init 28 = .ok (.iload 4, 2) := by decide +kernel
theorem dX2_init_30 : decode cX2_init 30 = .ok (.putfield 33, 3) := by decide +kernel
theorem dX2_init_33 : decode cX2_init 33 = .ok (.aload_n 0, 1) := by decide +kernel
theorem dX2_init_34 : decode cX2_init 34 = .ok (.iload 5, 2) := by decide +kernel
theorem dX2_init_36 : decode cX2_init 36 = .ok (.putfield 36, 3) := by decide +kernel
theorem dX2_init_39 : decode cX2_init 39 = .ok (.return_, 1) := by decide +kernel
theorem dX2_isKept_0 : decode cX2_isKept 0 = .ok (.aload_n 0, 1) := by decide +kernel
theorem dX2_isKept_1 : decode cX2_isKept 1 = .ok (.getfield 39, 3) := by decide +kernel
theorem dX2_isKept_4 : decode cX2_isKept 4 = .ok (.ifCond .ne 14, 3) := by decide +kernel
theorem dX2_isKept_7 : decode cX2_isKept 7 = .ok (.aload_n 0, 1) := by decide +kernel
theorem dX2_isKept_8 : decode cX2_isKept 8 = .ok (.getfield 29, 3) := by decide +kernel
theorem dX2_isKept_11 : decode cX2_isKept 11 = .ok (.ifCond .ne 7, 3) := by decide +kernel
theorem dX2_isKept_14 : decode cX2_isKept 14 = .ok (.iconst 1, 1) := by decide +kernel
theorem dX2_isKept_15 : decode cX2_isKept 15 = .ok (.goto 4, 3) := by decide +kernel
theorem dX2_isKept_18 : decode cX2_isKept 18 = .ok (.iconst 0, 1) := by decide +kernel
theorem dX2_isKept_19 : decode cX2_isKept 19 = .ok (.ireturn, 1) := by decide +kernel
theorem dX2_pressing_0 : decode cX2_pressing 0 = .ok (.bipush 10, 2) := by decide +kernel
theorem dX2_pressing_2 : decode cX2_pressing 2 = .ok (.aload_n 0, 1) := by decide +kernel
theorem dX2_pressing_3 : decode cX2_pressing 3 = .ok (.getfield 33, 3) := by decide +kernel
theorem dX2_pressing_6 : decode cX2_pressing 6 = .ok (.imul, 1) := by decide +kernel
theorem dX2_pressing_7 : decode cX2_pressing 7 = .ok (.iload_n 1, 1) := by decide +kernel
theorem dX2_pressing_8 : decode cX2_pressing 8 = .ok (.iadd, 1) := by decide +kernel
theorem dX2_pressing_9 : decode cX2_pressing 9 = .ok (.aload_n 0, 1) := by decide +kernel
theorem dX2_pressing_10 : decode cX2_pressing 10 = .ok (.getfield 36, 3) := by decide +kernel
theorem dX2_pressing_13 : decode cX2_pressing 13 = .ok (.isub, 1) := by decide +kernel
theorem dX2_pressing_14 : decode cX2_pressing 14 = .ok (.ireturn, 1) := by decide +kernel
set_option maxRecDepth 20000 in
theorem ggX2_gainsMoreThan_X2_gainAbove : GoodIn wsX2_gainsMoreThan wsX2_gainAbove := goodIn_r _ [5, 6, 7, 14, 15, 16, 17, 18, 19, 20, 21, 22, 23] (by decide +kernel) (by decide +kernel)
set_option maxRecDepth 20000 in
theorem gX2_gainsMoreThan_X2_gainAbove : GoodIn wsX2_gainsMoreThan (wsV RX2 42 RX2 yX2_gainAbove wsX2_gainAbove) := goodIn_app (goodIn_of _ (by decide +kernel)) ggX2_gainsMoreThan_X2_gainAbove
set_option maxRecDepth 20000 in
theorem ggX2_gainsMoreThan_X2_gainBelow : GoodIn wsX2_gainsMoreThan wsX2_gainBelow := goodIn_r _ [11, 12, 7, 13, 14, 15, 16, 17, 18, 19, 20, 21, 22, 23] (by decide +kernel) (by decide +kernel)
set_option maxRecDepth 20000 in
theorem gX2_gainsMoreThan_X2_gainBelow : GoodIn wsX2_gainsMoreThan (wsV RX2 46 RX2 yX2_gainBelow wsX2_gainBelow) := goodIn_app (goodIn_of _ (by decide +kernel)) ggX2_gainsMoreThan_X2_gainBelow
theorem dX2_gainsMoreThan_0 : decode cX2_gainsMoreThan 0 = .ok (.aload_n 0, 1) := by decide +kernel
theorem dX2_gainsMoreThan_1 : decode cX2_gainsMoreThan 1 = .ok (.invokevirtual 42, 3) := by decide +kernel
theorem dX2_gainsMoreThan_4 : decode cX2_gainsMoreThan 4 = .ok (.aload_n 1, 1) := by decide +kernel
theorem dX2_gainsMoreThan_5 : decode cX2_gainsMoreThan 5 = .ok (.invokevirtual 46, 3) := by decide +kernel
theorem dX2_gainsMoreThan_8 : decode cX2_gainsMoreThan 8 = .ok (.lmul, 1) := by decide +kernel
theorem dX2_gainsMoreThan_9 : decode cX2_gainsMoreThan 9 = .ok (.aload_n 1, 1) := by decide +kernel
theorem dX2_gainsMoreThan_10 : decode cX2_gainsMoreThan 10 = .ok (.invokevirtual 42, 3) := by decide +kernel
theorem dX2_gainsMoreThan_13 : decode cX2_gainsMoreThan 13 = .ok (.aload_n 0, 1) := by decide +kernel
theorem dX2_gainsMoreThan_14 : decode cX2_gainsMoreThan 14 = .ok (.invokevirtual 46, 3) := by decide +kernel
theorem dX2_gainsMoreThan_17 : decode cX2_gainsMoreThan 17 = .ok (.lmul, 1) := by decide +kernel
theorem dX2_gainsMoreThan_18 : decode cX2_gainsMoreThan 18 = .ok (.lcmp, 1) := by decide +kernel
theorem dX2_gainsMoreThan_19 : decode cX2_gainsMoreThan 19 = .ok (.ifCond .le 7, 3) := by decide +kernel
theorem dX2_gainsMoreThan_22 : decode cX2_gainsMoreThan 22 = .ok (.iconst 1, 1) := by decide +kernel
theorem dX2_gainsMoreThan_23 : decode cX2_gainsMoreThan 23 = .ok (.goto 4, 3) := by decide +kernel
theorem dX2_gainsMoreThan_26 : decode cX2_gainsMoreThan 26 = .ok (.iconst 0, 1) := by decide +kernel
theorem dX2_gainsMoreThan_27 : decode cX2_gainsMoreThan 27 = .ok (.ireturn, 1) := by decide +kernel
theorem dX2_gainAbove_0 : decode cX2_gainAbove 0 = .ok (.aload_n 0, 1) := by decide +kernel
theorem dX2_gainAbove_1 : decode cX2_gainAbove 1 = .ok (.getfield 33, 3) := by decide +kernel
theorem dX2_gainAbove_4 : decode cX2_gainAbove 4 = .ok (.i2l, 1) := by decide +kernel
theorem dX2_gainAbove_5 : decode cX2_gainAbove 5 = .ok (.lconst 1, 1) := by decide +kernel
theorem dX2_gainAbove_6 : decode cX2_gainAbove 6 = .ok (.ladd, 1) := by decide +kernel
theorem dX2_gainAbove_7 : decode cX2_gainAbove 7 = .ok (.aload_n 0, 1) := by decide +kernel
theorem dX2_gainAbove_8 : decode cX2_gainAbove 8 = .ok (.getfield 49, 3) := by decide +kernel
theorem dX2_gainAbove_11 : decode cX2_gainAbove 11 = .ok (.i2l, 1) := by decide +kernel
theorem dX2_gainAbove_12 : decode cX2_gainAbove 12 = .ok (.lconst 1, 1) := by decide +kernel
theorem dX2_gainAbove_13 : decode cX2_gainAbove 13 = .ok (.ladd, 1) := by decide +kernel
theorem dX2_gainAbove_14 : decode cX2_gainAbove 14 = .ok (.lmul, 1) := by decide +kernel
theorem dX2_gainAbove_15 : decode cX2_gainAbove 15 = .ok (.lreturn, 1) := by decide +kernel
theorem dX2_gainBelow_0 : decode cX2_gainBelow 0 = .ok (.aload_n 0, 1) := by decide +kernel
theorem dX2_gainBelow_1 : decode cX2_gainBelow 1 = .ok (.getfield 52, 3) := by decide +kernel
theorem dX2_gainBelow_4 : decode cX2_gainBelow 4 = .ok (.aload_n 0, 1) := by decide +kernel
theorem dX2_gainBelow_5 : decode cX2_gainBelow 5 = .ok (.getfield 49, 3) := by decide +kernel
theorem dX2_gainBelow_8 : decode cX2_gainBelow 8 = .ok (.iadd, 1) := by decide +kernel
theorem dX2_gainBelow_9 : decode cX2_gainBelow 9 = .ok (.i2l, 1) := by decide +kernel
theorem dX2_gainBelow_10 : decode cX2_gainBelow 10 = .ok (.lconst 1, 1) := by decide +kernel
theorem dX2_gainBelow_11 : decode cX2_gainBelow 11 = .ok (.ladd, 1) := by decide +kernel
theorem dX2_gainBelow_12 : decode cX2_gainBelow 12 = .ok (.aload_n 0, 1) := by decide +kernel
theorem dX2_gainBelow_13 : decode cX2_gainBelow 13 = .ok (.getfield 52, 3) := by decide +kernel
theorem dX2_gainBelow_16 : decode cX2_gainBelow 16 = .ok (.aload_n 0, 1) := by decide +kernel
theorem dX2_gainBelow_17 : decode cX2_gainBelow 17 = .ok (.getfield 49, 3) := by decide +kernel
theorem dX2_gainBelow_20 : decode cX2_gainBelow 20 = .ok (.iadd, 1) := by decide +kernel
theorem dX2_gainBelow_21 : decode cX2_gainBelow 21 = .ok (.i2l, 1) := by decide +kernel
theorem dX2_gainBelow_22 : decode cX2_gainBelow 22 = .ok (.ldc2_w 55, 3) := by decide +kernel
theorem dX2_gainBelow_25 : decode cX2_gainBelow 25 = .ok (.ladd, 1) := by decide +kernel
theorem dX2_gainBelow_26 : decode cX2_gainBelow 26 = .ok (.lmul, 1) := by decide +kernel
theorem dX2_gainBelow_27 : decode cX2_gainBelow 27 = .ok (.lreturn, 1) := by decide +kernel
set_option maxRecDepth 20000 in
theorem ggX3_init_X0_init : GoodIn wsX3_init wsX0_init := goodIn_r _ [19, 20, 2, 3, 21, 22, 23, 24, 29, 30, 31, 32] (by decide +kernel) (by decide +kernel)
set_option maxRecDepth 20000 in
theorem gX3_init_X0_init : GoodIn wsX3_init (wsX0_init) := ggX3_init_X0_init
set_option maxRecDepth 20000 in
theorem ggX3_init_X1_init : GoodIn wsX3_init wsX1_init := goodIn_r _ [26, 27, 2, 3, 28, 42, 43, 44] (by decide +kernel) (by decide +kernel)
set_option maxRecDepth 20000 in
theorem gX3_init_X1_init_n22 : GoodIn wsX3_init (wsX1_init) := ggX3_init_X1_init
theorem dX3_init_0 : decode cX3_init 0 = .ok (.aload_n 0, 1) := by decide +kernel
theorem dX3_init_1 : decode cX3_init 1 = .ok (.invokespecial 1, 3) := by decide +kernel
theorem dX3_init_4 : decode cX3_init 4 = .ok (.aload_n 0, 1) := by decide +kernel
theorem dX3_init_5 : decode cX3_init 5 = .ok (.new 7, 3) := by decide +kernel
theorem dX3_init_8 : decode cX3_init 8 = .ok (.dup, 1) := by decide +kernel
theorem dX3_init_9 : decode cX3_init 9 = .ok (.invokespecial 9, 3) := by decide +kernel
theorem dX3_init_12 : decode cX3_init 12 = .ok (.putfield 10, 3) := by decide +kernel
theorem dX3_init_15 : decode cX3_init 15 = .ok (.aload_n 0, 1) := by decide +kernel
theorem dX3_init_16 : decode cX3_init 16 = .ok (.bipush 6, 2) := by decide +kernel
theorem dX3_init_18 : decode cX3_init 18 = .ok (.anewarray 16, 3) := by decide +kernel
theorem dX3_init_21 : decode cX3_init 21 = .ok (.putfield 18, 3) := by decide +kernel
theorem dX3_init_24 : decode cX3_init 24 = .ok (.iconst 0, 1) := by decide +kernel
theorem dX3_init_25 : decode cX3_init 25 = .ok (.istore_n 1, 1) := by decide +kernel
theorem dX3_init_26 : decode cX3_init 26 = .ok (.iload_n 1, 1) := by decide +kernel
theorem dX3_init_27 : decode cX3_init 27 = .ok (.aload_n 0, 1) := by decide +kernel
theorem dX3_init_28 : decode cX3_init 28 = .ok (.getfield 18, 3) := by decide +kernel
theorem dX3_init_31 : decode cX3_init 31 = .ok (.arraylength, 1) := by decide +kernel
theorem dX3_init_32 : decode cX3_init 32 = .ok (.if_icmp .ge 22, 3) := by decide +kernel
theorem dX3_init_35 : decode cX3_init 35 = .ok (.aload_n 0, 1) := by decide +kernel
theorem dX3_init_36 : decode cX3_init 36 = .ok (.getfield 18, 3) := by decide +kernel
theorem dX3_init_39 : decode cX3_init 39 = .ok (.iload_n 1, 1) := by decide +kernel
theorem dX3_init_40 : decode cX3_init 40 = .ok (.new 16, 3) := by decide +kernel
theorem dX3_init_43 : decode cX3_init 43 = .ok (.dup, 1) := by decide +kernel
theorem dX3_init_44 : decode cX3_init 44 = .ok (.invokespecial 22, 3) := by decide +kernel
theorem dX3_init_47 : decode cX3_init 47 = .ok (.aastore, 1) := by decide +kernel
theorem dX3_init_48 : decode cX3_init 48 = .ok (.iinc 1 1, 3) := by decide +kernel
theorem dX3_init_51 : decode cX3_init 51 = .ok (.goto (-25), 3) := by decide +kernel
theorem dX3_init_54 : decode cX3_init 54 = .ok (.aload_n 0, 1) := by decide +kernel
theorem dX3_init_55 : decode cX3_init 55 = .ok (.bipush 30, 2) := by decide +kernel
theorem dX3_init_57 : decode cX3_init 57 = .ok (.anewarray 23, 3) := by decide +kernel
theorem dX3_init_60 : decode cX3_init 60 = .ok (.putfield 25, 3) := by decide +kernel
theorem dX3_init_63 : decode cX3_init 63 = .ok (.aload_n 0, 1) := by decide +kernel
theorem dX3_init_64 : decode cX3_init 64 = .ok (.bipush 10, 2) := by decide +kernel
theorem dX3_init_66 : decode cX3_init 66 = .ok (.putfield 29, 3) := by decide +kernel
theorem dX3_init_69 : decode cX3_init 69 = .ok (.aload_n 0, 1) := by decide +kernel
theorem dX3_init_70 : decode cX3_init 70 = .ok (.sipush 500, 3) := by decide +kernel
theorem dX3_init_73 : decode cX3_init 73 = .ok (.putfield 33, 3) := by decide +kernel
theorem dX3_init_76 : decode cX3_init 76 = .ok (.aload_n 0, 1) := by decide +kernel
theorem dX3_init_77 : decode cX3_init 77 = .ok (.bipush 20, 2) := by decide +kernel
theorem dX3_init_79 : decode cX3_init 79 = .ok (.putfield 36, 3) := by decide +kernel
theorem dX3_init_82 : decode cX3_init 82 = .ok (.return_, 1) := by decide +kernel
set_option maxRecDepth 20000 in
theorem ggX3_type_X0_isFull : GoodIn wsX3_type wsX0_isFull := goodIn_r _ [11, 12, 13, 37, 38, 39, 40] (by decide +kernel) (by decide +kernel)
set_option maxRecDepth 20000 in
theorem gX3_type_X0_isFull : GoodIn wsX3_type (wsV RX3 46 RX0 yX0_isFull wsX0_isFull) := goodIn_app (goodIn_of _ (by decide +kernel)) ggX3_type_X0_isFull
set_option maxRecDepth 20000 in
theorem ggX3_type_X0_add : GoodIn wsX3_type wsX0_add := goodIn_r _ [17, 12, 13, 18, 19, 20, 10, 21, 22, 23, 24, 25, 26, 27, 37, 38, 39, 40] (by decide +kernel) (by decide +kernel)
set_option maxRecDepth 20000 in
theorem gX3_type_X0_add : GoodIn wsX3_type (wsV RX3 55 RX0 yX0_add wsX0_add) := goodIn_app (goodIn_of _ (by decide +kernel)) ggX3_type_X0_add
theorem dX3_type_0 : decode cX3_type 0 = .ok (.iload_n 1, 1) := by decide +kernel
theorem dX3_type_1 : decode cX3_type 1 = .ok (.bipush 97, 2) := by decide +kernel
theorem dX3_type_3 : decode cX3_type 3 = .ok (.if_icmp .lt 13, 3) := by decide +kernel
theorem dX3_type_6 : decode cX3_type 6 = .ok (.iload_n 1, 1) := by decide +kernel
theorem dX3_type_7 : decode cX3_type 7 = .ok (.bipush 122, 2) := by decide +kernel
theorem dX3_type_9 : decode cX3_type 9 = .ok (.if_icmp .gt 7, 3) := by decide +kernel
theorem dX3_type_12 : decode cX3_type 12 = .ok (.iconst 1, 1) := by decide +kernel
theorem dX3_type_13 : decode cX3_type 13 = .ok (.goto 4, 3) := by decide +kernel
theorem dX3_type_16 : decode cX3_type 16 = .ok (.iconst 0, 1) := by decide +kernel
theorem dX3_type_17 : decode cX3_type 17 = .ok (.istore_n 2, 1) := by decide +kernel
theorem dX3_type_18 : decode cX3_type 18 = .ok (.iload_n 2, 1) := by decide +kernel
theorem dX3_type_19 : decode cX3_type 19 = .ok (.ifCond .ne 19, 3) := by decide +kernel
theorem dX3_type_22 : decode cX3_type 22 = .ok (.iload_n 1, 1) := by decide +kernel
theorem dX3_type_23 : decode cX3_type 23 = .ok (.bipush 47, 2) := by decide +kernel
theorem dX3_type_25 : decode cX3_type 25 = .ok (.if_icmp .eq 13, 3) := by decide +kernel
theorem dX3_type_28 : decode cX3_type 28 = .ok (.new 39, 3) := by decide +kernel
theorem dX3_type_31 : decode cX3_type 31 = .ok (.dup, 1) := by decide +kernel
theorem dX3_type_32 : decode cX3_type 32 = .ok (.ldc 41, 2) := by decide +kernel
theorem dX3_type_34 : decode cX3_type 34 = .ok (.invokespecial 43, 3) := by decide +kernel
theorem dX3_type_37 : decode cX3_type 37 = .ok (.athrow, 1) := by decide +kernel
theorem dX3_type_38 : decode cX3_type 38 = .ok (.aload_n 0, 1) := by decide +kernel
theorem dX3_type_39 : decode cX3_type 39 = .ok (.getfield 10, 3) := by decide +kernel
theorem dX3_type_42 : decode cX3_type 42 = .ok (.invokevirtual 46, 3) := by decide +kernel
theorem dX3_type_45 : decode cX3_type 45 = .ok (.ifCond .eq 13, 3) := by decide +kernel
theorem dX3_type_48 : decode cX3_type 48 = .ok (.new 50, 3) := by decide +kernel
theorem dX3_type_51 : decode cX3_type 51 = .ok (.dup, 1) := by decide +kernel
theorem dX3_type_52 : decode cX3_type 52 = .ok (.ldc 52, 2) := by decide +kernel
theorem dX3_type_54 : decode cX3_type 54 = .ok (.invokespecial 54, 3) := by decide +kernel
theorem dX3_type_57 : decode cX3_type 57 = .ok (.athrow, 1) := by decide +kernel
theorem dX3_type_58 : decode cX3_type 58 = .ok (.aload_n 0, 1) := by decide +kernel
theorem dX3_type_59 : decode cX3_type 59 = .ok (.getfield 10, 3) := by decide +kernel
theorem dX3_type_62 : decode cX3_type 62 = .ok (.iload_n 1, 1) := by decide +kernel
theorem dX3_type_63 : decode cX3_type 63 = .ok (.invokevirtual 55, 3) := by decide +kernel
theorem dX3_type_66 : decode cX3_type 66 = .ok (.aload_n 0, 1) := by decide +kernel
theorem dX3_type_67 : decode cX3_type 67 = .ok (.getfield 10, 3) := by decide +kernel
theorem dX3_type_70 : decode cX3_type 70 = .ok (.getfield 59, 3) := by decide +kernel
theorem dX3_type_73 : decode cX3_type 73 = .ok (.ireturn, 1) := by decide +kernel
set_option maxRecDepth 20000 in
theorem ggX3_clearAddress_X0_empty : GoodIn wsX3_clearAddress wsX0_empty := goodIn_r _ [7, 8, 9, 19, 20, 21, 22] (by decide +kernel) (by decide +kernel)
set_option maxRecDepth 20000 in
theorem gX3_clearAddress_X0_empty : GoodIn wsX3_clearAddress (wsV RX3 62 RX0 yX0_empty wsX0_empty) := goodIn_app (goodIn_of _ (by decide +kernel)) ggX3_clearAddress_X0_empty
theorem dX3_clearAddress_0 : decode cX3_clearAddress 0 = .ok (.aload_n 0, 1) := by decide +kernel
theorem dX3_clearAddress_1 : decode cX3_clearAddress 1 = .ok (.getfield 10, 3) := by decide +kernel
theorem dX3_clearAddress_4 : decode cX3_clearAddress 4 = .ok (.getfield 59, 3) := by decide +kernel
theorem dX3_clearAddress_7 : decode cX3_clearAddress 7 = .ok (.istore_n 1, 1) := by decide +kernel
theorem dX3_clearAddress_8 : decode cX3_clearAddress 8 = .ok (.aload_n 0, 1) := by decide +kernel
theorem dX3_clearAddress_9 : decode cX3_clearAddress 9 = .ok (.getfield 10, 3) := by decide +kernel
theorem dX3_clearAddress_12 : decode cX3_clearAddress 12 = .ok (.invokevirtual 62, 3) := by decide +kernel
theorem dX3_clearAddress_15 : decode cX3_clearAddress 15 = .ok (.iload_n 1, 1) := by decide +kernel
theorem dX3_clearAddress_16 : decode cX3_clearAddress 16 = .ok (.ireturn, 1) := by decide +kernel
theorem dX3_segments_0 : decode cX3_segments 0 = .ok (.aload_n 0, 1) := by decide +kernel
theorem dX3_segments_1 : decode cX3_segments 1 = .ok (.getfield 10, 3) := by decide +kernel
theorem dX3_segments_4 : decode cX3_segments 4 = .ok (.getfield 65, 3) := by decide +kernel
theorem dX3_segments_7 : decode cX3_segments 7 = .ok (.ireturn, 1) := by decide +kernel
set_option maxRecDepth 20000 in
theorem ggX3_isTrap_X0_repeatsItself : GoodIn wsX3_isTrap wsX0_repeatsItself := goodIn_r _ [6, 7, 8, 9, 5, 10, 11, 12, 13, 14, 15, 16, 17, 18, 19, 20, 21, 22, 23, 24, 25, 26, 36, 37, 38, 39] (by decide +kernel) (by decide +kernel)
set_option maxRecDepth 20000 in
theorem gX3_isTrap_X0_repeatsItself : GoodIn wsX3_isTrap (wsV RX3 68 RX0 yX0_repeatsItself wsX0_repeatsItself) := goodIn_app (goodIn_of _ (by decide +kernel)) ggX3_isTrap_X0_repeatsItself
theorem dX3_isTrap_0 : decode cX3_isTrap 0 = .ok (.aload_n 0, 1) := by decide +kernel
theorem dX3_isTrap_1 : decode cX3_isTrap 1 = .ok (.getfield 10, 3) := by decide +kernel
theorem dX3_isTrap_4 : decode cX3_isTrap 4 = .ok (.invokevirtual 68, 3) := by decide +kernel
theorem dX3_isTrap_7 : decode cX3_isTrap 7 = .ok (.ireturn, 1) := by decide +kernel
set_option maxRecDepth 20000 in
theorem ggX3_setRest_X3_knownHost : GoodIn wsX3_setRest wsX3_knownHost := goodIn_ca (goodIn_r _ [8, 9, 10, 11, 15, 16, 17, 18, 19, 20, 21, 22, 23] (by decide +kernel) (by decide +kernel)) (goodIn_sub (fun _ h => List.mem_cons_of_mem _ (List.mem_append_right _ h)) (by decide +kernel))
set_option maxRecDepth 20000 in
theorem gX3_setRest_X3_knownHost : GoodIn wsX3_setRest (wsV RX3 71 RX3 yX3_knownHost wsX3_knownHost) := goodIn_app (goodIn_of _ (by decide +kernel)) ggX3_setRest_X3_knownHost
theorem dX3_setRest_0 : decode cX3_setRest 0 = .ok (.aload_n 0, 1) := by decide +kernel
theorem dX3_setRest_1 : decode cX3_setRest 1 = .ok (.iload_n 1, 1) := by decide +kernel
theorem dX3_setRest_2 : decode cX3_setRest 2 = .ok (.invokevirtual 71, 3) := by decide +kernel
theorem dX3_setRest_5 : decode cX3_setRest 5 = .ok (.astore_n 3, 1) := by decide +kernel
theorem dX3_setRest_6 : decode cX3_setRest 6 = .ok (.iload_n 2, 1) := by decide +kernel
theorem dX3_setRest_7 : decode cX3_setRest 7 = .ok (.iconst 1, 1) := by decide +kernel
theorem dX3_setRest_8 : decode cX3_setRest 8 = .ok (.if_icmp .lt 9, 3) := by decide +kernel
theorem dX3_setRest_11 : decode cX3_setRest 11 = .ok (.iload_n 2, 1) := by decide +kernel
theorem dX3_setRest_12 : decode cX3_setRest 12 = .ok (.bipush 100, 2) := by decide +kernel
theorem dX3_setRest_14 : decode cX3_setRest 14 = .ok (.if_icmp .le 13, 3) := by decide +kernel
theorem dX3_setRest_17 : decode cX3_setRest 17 = .ok (.new 39, 3) := by decide +kernel
theorem dX3_setRest_20 : decode cX3_setRest 20 = .ok (.dup, 1) := by decide +kernel
theorem dX3_setRest_21 : decode cX3_setRest 21 = .ok (.ldc 75, 2) := by decide +kernel
theorem dX3_setRest_23 : decode cX3_setRest 23 = .ok (.invokespecial 43, 3) := by decide +kernel
theorem dX3_setRest_26 : decode cX3_setRest 26 = .ok (.athrow, 1) := by decide +kernel
theorem dX3_setRest_27 : decode cX3_setRest 27 = .ok (.aload_n 3, 1) := by decide +kernel
theorem dX3_setRest_28 : decode cX3_setRest 28 = .ok (.getfield 77, 3) := by decide +kernel
theorem dX3_setRest_31 : decode cX3_setRest 31 = .ok (.istore 4, 2) := by decide +kernel
theorem dX3_setRest_33 : decode cX3_setRest 33 = .ok (.aload_n 3, 1) := by decide +kernel
theorem dX3_setRest_34 : decode cX3_setRest 34 = .ok (.iload_n 2, 1) := by decide +kernel
theorem dX3_setRest_35 : decode cX3_setRest 35 = .ok (.putfield 77, 3) := by decide +kernel
theorem dX3_setRest_38 : decode cX3_setRest 38 = .ok (.iload 4, 2) := by decide +kernel
theorem dX3_setRest_40 : decode cX3_setRest 40 = .ok (.ireturn, 1) := by decide +kernel
theorem dX3_setPaces_0 : decode cX3_setPaces 0 = .ok (.iload_n 1, 1) := by decide +kernel
theorem dX3_setPaces_1 : decode cX3_setPaces 1 = .ok (.iconst 1, 1) := by decide +kernel
theorem dX3_setPaces_2 : decode cX3_setPaces 2 = .ok (.if_icmp .lt 10, 3) := by decide +kernel
theorem dX3_setPaces_5 : decode cX3_setPaces 5 = .ok (.iload_n 1, 1) := by decide +kernel
theorem dX3_setPaces_6 : decode cX3_setPaces 6 = .ok (.sipush 1000, 3) := by decide +kernel
theorem dX3_setPaces_9 : decode cX3_setPaces 9 = .ok (.if_icmp .le 13, 3) := by decide +kernel
theorem dX3_setPaces_12 : decode cX3_setPaces 12 = .ok (.new 39, 3) := by decide +kernel
theorem dX3_setPaces_15 : decode cX3_setPaces 15 = .ok (.dup, 1) := by decide +kernel
theorem dX3_setPaces_16 : decode cX3_setPaces 16 = .ok (.ldc 80, 2) := by decide +kernel
theorem dX3_setPaces_18 : decode cX3_setPaces 18 = .ok (.invokespecial 43, 3) := by decide +kernel
theorem dX3_setPaces_21 : decode cX3_setPaces 21 = .ok (.athrow, 1) := by decide +kernel
theorem dX3_setPaces_22 : decode cX3_setPaces 22 = .ok (.iload_n 2, 1) := by decide +kernel
theorem dX3_setPaces_23 : decode cX3_setPaces 23 = .ok (.iload_n 1, 1) := by decide +kernel
theorem dX3_setPaces_24 : decode cX3_setPaces 24 = .ok (.if_icmp .lt 10, 3) := by decide +kernel
theorem dX3_setPaces_27 : decode cX3_setPaces 27 = .ok (.iload_n 2, 1) := by decide +kernel
theorem dX3_setPaces_28 : decode cX3_setPaces 28 = .ok (.sipush 5000, 3) := by decide +kernel
theorem dX3_setPaces_31 : decode cX3_setPaces 31 = .ok (.if_icmp .le 13, 3) := by decide +kernel
theorem dX3_setPaces_34 : decode cX3_setPaces 34 = .ok (.new 39, 3) := by decide +kernel
theorem dX3_setPaces_37 : decode cX3_setPaces 37 = .ok (.dup, 1) := by decide +kernel
theorem dX3_setPaces_38 : decode cX3_setPaces 38 = .ok (.ldc 82, 2) := by decide +kernel
theorem dX3_setPaces_40 : decode cX3_setPaces 40 = .ok (.invokespecial 43, 3) := by decide +kernel
theorem dX3_setPaces_43 : decode cX3_setPaces 43 = .ok (.athrow, 1) := by decide +kernel
theorem dX3_setPaces_44 : decode cX3_setPaces 44 = .ok (.aload_n 0, 1) := by decide +kernel
theorem dX3_setPaces_45 : decode cX3_setPaces 45 = .ok (.iload_n 1, 1) := by decide +kernel
theorem dX3_setPaces_46 : decode cX3_setPaces 46 = .ok (.putfield 29, 3) := by decide +kernel
theorem dX3_setPaces_49 : decode cX3_setPaces 49 = .ok (.aload_n 0, 1) := by decide +kernel
theorem dX3_setPaces_50 : decode cX3_setPaces 50 = .ok (.iload_n 2, 1) := by decide +kernel
theorem dX3_setPaces_51 : decode cX3_setPaces 51 = .ok (.putfield 33, 3) := by decide +kernel
theorem dX3_setPaces_54 : decode cX3_setPaces 54 = .ok (.return_, 1) := by decide +kernel
theorem dX3_setBudget_0 : decode cX3_setBudget 0 = .ok (.iload_n 1, 1) := by decide +kernel
theorem dX3_setBudget_1 : decode cX3_setBudget 1 = .ok (.iconst 1, 1) := by decide +kernel
theorem dX3_setBudget_2 : decode cX3_setBudget 2 = .ok (.if_icmp .lt 9, 3) := by decide +kernel
theorem dX3_setBudget_5 : decode cX3_setBudget 5 = .ok (.iload_n 1, 1) := by decide +kernel
theorem dX3_setBudget_6 : decode cX3_setBudget 6 = .ok (.bipush 100, 2) := by decide +kernel
theorem dX3_setBudget_8 : decode cX3_setBudget 8 = .ok (.if_icmp .le 13, 3) := by decide +kernel
theorem dX3_setBudget_11 : decode cX3_setBudget 11 = .ok (.new 39, 3) := by decide +kernel
theorem dX3_setBudget_14 : decode cX3_setBudget 14 = .ok (.dup, 1) := by decide +kernel
theorem dX3_setBudget_15 : decode cX3_setBudget 15 = .ok (.ldc 84, 2) := by decide +kernel
theorem dX3_setBudget_17 : decode cX3_setBudget 17 = .ok (.invokespecial 43, 3) := by decide +kernel
theorem dX3_setBudget_20 : decode cX3_setBudget 20 = .ok (.athrow, 1) := by decide +kernel
theorem dX3_setBudget_21 : decode cX3_setBudget 21 = .ok (.aload_n 0, 1) := by decide +kernel
theorem dX3_setBudget_22 : decode cX3_setBudget 22 = .ok (.getfield 36, 3) := by decide +kernel
theorem dX3_setBudget_25 : decode cX3_setBudget 25 = .ok (.istore_n 2, 1) := by decide +kernel
theorem dX3_setBudget_26 : decode cX3_setBudget 26 = .ok (.aload_n 0, 1) := by decide +kernel
theorem dX3_setBudget_27 : decode cX3_setBudget 27 = .ok (.iload_n 1, 1) := by decide +kernel
theorem dX3_setBudget_28 : decode cX3_setBudget 28 = .ok (.putfield 36, 3) := by decide +kernel
theorem dX3_setBudget_31 : decode cX3_setBudget 31 = .ok (.iload_n 2, 1) := by decide +kernel
theorem dX3_setBudget_32 : decode cX3_setBudget 32 = .ok (.ireturn, 1) := by decide +kernel
set_option maxRecDepth 20000 in
theorem ggX3_failures_X3_knownHost : GoodIn wsX3_failures wsX3_knownHost := goodIn_ca (goodIn_r _ [6, 7, 8, 9, 13, 14, 15, 16, 17, 18, 19, 20, 21] (by decide +kernel) (by decide +kernel)) (goodIn_sub (fun _ h => List.mem_cons_of_mem _ (List.mem_append_right _ h)) (by decide +kernel))
set_option maxRecDepth 20000 in
theorem gX3_failures_X3_knownHost : GoodIn wsX3_failures (wsV RX3 71 RX3 yX3_knownHost wsX3_knownHost) := goodIn_app (goodIn_of _ (by decide +kernel)) ggX3_failures_X3_knownHost
theorem dX3_failures_0 : decode cX3_failures 0 = .ok (.aload_n 0, 1) := by decide +kernel
theorem dX3_failures_1 : decode cX3_failures 1 = .ok (.iload_n 1, 1) := by decide +kernel
theorem dX3_failures_2 : decode cX3_failures 2 = .ok (.invokevirtual 71, 3) := by decide +kernel
theorem dX3_failures_5 : decode cX3_failures 5 = .ok (.getfield 86, 3) := by decide +kernel
theorem dX3_failures_8 : decode cX3_failures 8 = .ok (.ireturn, 1) := by decide +kernel
set_option maxRecDepth 20000 in
theorem ggX3_openFrom_X3_knownHost : GoodIn wsX3_openFrom wsX3_knownHost := goodIn_ca (goodIn_r _ [6, 7, 8, 9, 13, 14, 15, 16, 17, 18, 19, 20, 21] (by decide +kernel) (by decide +kernel)) (goodIn_sub (fun _ h => List.mem_cons_of_mem _ (List.mem_append_right _ h)) (by decide +kernel))
set_option maxRecDepth 20000 in
theorem gX3_openFrom_X3_knownHost : GoodIn wsX3_openFrom (wsV RX3 71 RX3 yX3_knownHost wsX3_knownHost) := goodIn_app (goodIn_of _ (by decide +kernel)) ggX3_openFrom_X3_knownHost
theorem dX3_openFrom_0 : decode cX3_openFrom 0 = .ok (.aload_n 0, 1) := by decide +kernel
theorem dX3_openFrom_1 : decode cX3_openFrom 1 = .ok (.iload_n 1, 1) := by decide +kernel
theorem dX3_openFrom_2 : decode cX3_openFrom 2 = .ok (.invokevirtual 71, 3) := by decide +kernel
theorem dX3_openFrom_5 : decode cX3_openFrom 5 = .ok (.getfield 89, 3) := by decide +kernel
theorem dX3_openFrom_8 : decode cX3_openFrom 8 = .ok (.ireturn, 1) := by decide +kernel
set_option maxRecDepth 20000 in
theorem ggX3_find_X3_knownHost : GoodIn wsX3_find wsX3_knownHost := goodIn_ca (goodIn_r _ [18, 19, 20, 21, 97, 98, 99, 100, 101, 102, 103, 104, 105] (by decide +kernel) (by decide +kernel)) (goodIn_sub (fun _ h => List.mem_cons_of_mem _ (List.mem_append_left _ (List.mem_append_right _ h))) (by decide +kernel))
set_option maxRecDepth 20000 in
theorem gX3_find_X3_knownHost : GoodIn wsX3_find (wsV RX3 71 RX3 yX3_knownHost wsX3_knownHost) := goodIn_app (goodIn_of _ (by decide +kernel)) ggX3_find_X3_knownHost
set_option maxRecDepth 20000 in
theorem ggX3_find_X3_refuseOtherRanks : GoodIn wsX3_find wsX3_refuseOtherRanks := goodIn_ca (goodIn_r _ [24, 25, 26] (by decide +kernel) (by decide +kernel)) (goodIn_sub (fun _ h => List.mem_cons_of_mem _ (List.mem_append_right _ h)) (by decide +kernel))
set_option maxRecDepth 20000 in
theorem gX3_find_X3_refuseOtherRanks : GoodIn wsX3_find (va_wsS RX3 92 yX3_refuseOtherRanks wsX3_refuseOtherRanks) := goodIn_app (goodIn_of _ (by decide +kernel)) ggX3_find_X3_refuseOtherRanks
set_option maxRecDepth 20000 in
theorem ggX3_find_X3_pageAtBuffer : GoodIn wsX3_find wsX3_pageAtBuffer := goodIn_r _ [30, 5, 31, 32, 12, 33, 34, 35, 11, 36, 37, 38, 39, 40, 41, 42, 97, 98, 99, 100, 101, 102, 103, 104, 105, 87, 88, 89, 90, 91, 92, 93, 94, 95, 96, 106, 107, 108, 109] (by decide +kernel) (by decide +kernel)
set_option maxRecDepth 20000 in
theorem gX3_find_X3_pageAtBuffer : GoodIn wsX3_find (wsV RX3 96 RX3 yX3_pageAtBuffer wsX3_pageAtBuffer) := goodIn_app (goodIn_of _ (by decide +kernel)) ggX3_find_X3_pageAtBuffer
set_option maxRecDepth 20000 in
theorem ggX3_find_X0_init_ : GoodIn wsX3_find wsX0_init_ := goodIn_r _ [45, 46, 47, 48, 42, 49, 50, 51, 52, 53, 54, 55, 56, 57, 58, 59, 37, 60, 106, 107, 108, 109] (by decide +kernel) (by decide +kernel)
set_option maxRecDepth 20000 in
theorem gX3_find_X0_init_ : GoodIn wsX3_find (wsX0_init_) := ggX3_find_X0_init_
set_option maxRecDepth 20000 in
theorem ggX3_find_X2_init : GoodIn wsX3_find wsX2_init := goodIn_r _ [63, 64, 47, 48, 65, 66, 67, 68, 69, 70, 71, 72, 73, 11, 74, 75, 76, 77, 78, 60, 79, 80, 81, 82, 37, 83, 84, 85, 86, 55, 38, 39, 40, 41, 42, 87, 88, 89, 90, 91, 92, 93, 94, 95, 96, 106, 107, 108, 109] (by decide +kernel) (by decide +kernel)
set_option maxRecDepth 20000 in
theorem gX3_find_X2_init : GoodIn wsX3_find (wsX2_init) := ggX3_find_X2_init
theorem dX3_find_0 : decode cX3_find 0 = .ok (.aload_n 0, 1) := by decide +kernel
theorem dX3_find_1 : decode cX3_find 1 = .ok (.iload_n 1, 1) := by decide +kernel
theorem dX3_find_2 : decode cX3_find 2 = .ok (.invokevirtual 71, 3) := by decide +kernel
theorem dX3_find_5 : decode cX3_find 5 = .ok (.astore_n 3, 1) := by decide +kernel
theorem dX3_find_6 : decode cX3_find 6 = .ok (.iload_n 2, 1) := by decide +kernel
theorem dX3_find_7 : decode cX3_find 7 = .ok (.invokestatic 92, 3) := by decide +kernel
theorem dX3_find_10 : decode cX3_find 10 = .ok (.aload_n 0, 1) := by decide +kernel
theorem dX3_find_11 : decode cX3_find 11 = .ok (.aload_n 3, 1) := by decide +kernel
theorem dX3_find_12 : decode cX3_find 12 = .ok (.invokevirtual 96, 3) := by decide +kernel
theorem dX3_find_15 : decode cX3_find 15 = .ok (.astore 4, 2) := by decide +kernel
theorem dX3_find_17 : decode cX3_find 17 = .ok (.aload 4, 2) := by decide +kernel
theorem dX3_find_19 : decode cX3_find 19 = .ok (.ifnull 9, 3) := by decide +kernel
theorem dX3_find_22 : decode cX3_find 22 = .ok (.aload 4, 2) := by decide +kernel
theorem dX3_find_24 : decode cX3_find 24 = .ok (.getfield 100, 3) := by decide +kernel
theorem dX3_find_27 : decode cX3_find 27 = .ok (.ireturn, 1) := by decide +kernel
theorem dX3_find_28 : decode cX3_find 28 = .ok (.aload_n 0, 1) := by decide +kernel
theorem dX3_find_29 : decode cX3_find 29 = .ok (.getfield 103, 3) := by decide +kernel
theorem dX3_find_32 : decode cX3_find 32 = .ok (.istore 5, 2) := by decide +kernel
theorem dX3_find_34 : decode cX3_find 34 = .ok (.iload 5, 2) := by decide +kernel
theorem dX3_find_36 : decode cX3_find 36 = .ok (.ifCond .lt 13, 3) := by decide +kernel
theorem dX3_find_39 : decode cX3_find 39 = .ok (.iload 5, 2) := by decide +kernel
theorem dX3_find_41 : decode cX3_find 41 = .ok (.aload_n 0, 1) := by decide +kernel
theorem dX3_find_42 : decode cX3_find 42 = .ok (.getfield 25, 3) := by decide +kernel
theorem dX3_find_45 : decode cX3_find 45 = .ok (.arraylength, 1) := by decide +kernel
theorem dX3_find_46 : decode cX3_find 46 = .ok (.if_icmp .lt 13, 3) := by decide +kernel
theorem dX3_find_49 : decode cX3_find 49 = .ok (.new 50, 3) := by decide +kernel
theorem dX3_find_52 : decode cX3_find 52 = .ok (.dup, 1) := by decide +kernel
theorem dX3_find_53 : decode cX3_find 53 = .ok (.ldc 106, 2) := by decide +kernel
theorem dX3_find_55 : decode cX3_find 55 = .ok (.invokespecial 54, 3) := by decide +kernel
theorem dX3_find_58 : decode cX3_find 58 = .ok (.athrow, 1) := by decide +kernel
theorem dX3_find_59 : decode cX3_find 59 = .ok (.aload_n 0, 1) := by decide +kernel
theorem dX3_find_60 : decode cX3_find 60 = .ok (.getfield 25, 3) := by decide +kernel
theorem dX3_find_63 : decode cX3_find 63 = .ok (.iload 5, 2) := by decide +kernel
theorem dX3_find_65 : decode cX3_find 65 = .ok (.new 23, 3) := by decide +kernel
theorem dX3_find_68 : decode cX3_find 68 = .ok (.dup, 1) := by decide +kernel
theorem dX3_find_69 : decode cX3_find 69 = .ok (.iload 5, 2) := by decide +kernel
theorem dX3_find_71 : decode cX3_find 71 = .ok (.aload_n 3, 1) := by decide +kernel
theorem dX3_find_72 : decode cX3_find 72 = .ok (.new 7, 3) := by decide +kernel
theorem dX3_find_75 : decode cX3_find 75 = .ok (.dup, 1) := by decide +kernel
theorem dX3_find_76 : decode cX3_find 76 = .ok (.aload_n 0, 1) := by decide +kernel
theorem dX3_find_77 : decode cX3_find 77 = .ok (.getfield 10, 3) := by decide +kernel
theorem dX3_find_80 : decode cX3_find 80 = .ok (.invokespecial 108, 3) := by decide +kernel
theorem dX3_find_83 : decode cX3_find 83 = .ok (.iload_n 2, 1) := by decide +kernel
theorem dX3_find_84 : decode cX3_find 84 = .ok (.aload_n 0, 1) := by decide +kernel
theorem dX3_find_85 : decode cX3_find 85 = .ok (.getfield 111, 3) := by decide +kernel
theorem dX3_find_88 : decode cX3_find 88 = .ok (.invokespecial 114, 3) := by decide +kernel
theorem dX3_find_91 : decode cX3_find 91 = .ok (.aastore, 1) := by decide +kernel
theorem dX3_find_92 : decode cX3_find 92 = .ok (.aload_n 0, 1) := by decide +kernel
theorem dX3_find_93 : decode cX3_find 93 = .ok (.dup, 1) := by decide +kernel
theorem dX3_find_94 : decode cX3_find 94 = .ok (.getfield 103, 3) := by decide +kernel
theorem dX3_find_97 : decode cX3_find 97 = .ok (.iconst 1, 1) := by decide +kernel
theorem dX3_find_98 : decode cX3_find 98 = .ok (.iadd, 1) := by decide +kernel
theorem dX3_find_99 : decode cX3_find 99 = .ok (.putfield 103, 3) := by decide +kernel
theorem dX3_find_102 : decode cX3_find 102 = .ok (.iload 5, 2) := by decide +kernel
theorem dX3_find_104 : decode cX3_find 104 = .ok (.ireturn, 1) := by decide +kernel
set_option maxRecDepth 20000 in
theorem ggX3_setRank_X3_knownPage : GoodIn wsX3_setRank wsX3_knownPage := goodIn_ca (goodIn_r _ [6, 7, 8, 9, 25, 26, 27, 28, 29, 30, 31, 32, 33] (by decide +kernel) (by decide +kernel)) (goodIn_sub (fun _ h => List.mem_cons_of_mem _ (List.mem_append_left _ (List.mem_append_right _ h))) (by decide +kernel))
set_option maxRecDepth 20000 in
theorem gX3_setRank_X3_knownPage : GoodIn wsX3_setRank (wsV RX3 117 RX3 yX3_knownPage wsX3_knownPage) := goodIn_app (goodIn_of _ (by decide +kernel)) ggX3_setRank_X3_knownPage
set_option maxRecDepth 20000 in
theorem ggX3_setRank_X3_refuseOtherRanks : GoodIn wsX3_setRank wsX3_refuseOtherRanks := goodIn_ca (goodIn_r _ [12, 13, 14] (by decide +kernel) (by decide +kernel)) (goodIn_sub (fun _ h => List.mem_cons_of_mem _ (List.mem_append_right _ h)) (by decide +kernel))
set_option maxRecDepth 20000 in
theorem gX3_setRank_X3_refuseOtherRanks : GoodIn wsX3_setRank (va_wsS RX3 92 yX3_refuseOtherRanks wsX3_refuseOtherRanks) := goodIn_app (goodIn_of _ (by decide +kernel)) ggX3_setRank_X3_refuseOtherRanks
