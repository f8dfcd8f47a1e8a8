set_option maxRecDepth 20000 in
theorem lawin_1 : ∀ w ∈ wsL_law0_r1, w ∈ lw_tbl := fun w h => (goodIn_p wsL_law0_r1 [49, 52] rfl (by decide +kernel) w h).1
set_option maxRecDepth 20000 in
theorem lawin_2 : ∀ w ∈ wsL_law0_r2, w ∈ lw_tbl := fun w h => (goodIn_p wsL_law0_r2 [57, 81, 581] rfl (by decide +kernel) w h).1
set_option maxRecDepth 20000 in
theorem lawin_3 : ∀ w ∈ wsL_law0_r3, w ∈ lw_tbl := fun w h => (goodIn_p wsL_law0_r3 [236] rfl (by decide +kernel) w h).1
set_option maxRecDepth 20000 in
theorem lawin_4 : ∀ w ∈ wsL_law0_r4, w ∈ lw_tbl := fun w h => (goodIn_p wsL_law0_r4 [308, 328, 161, 332] rfl (by decide +kernel) w h).1
set_option maxRecDepth 20000 in
theorem lawin_5 : ∀ w ∈ wsL_law0_r5, w ∈ lw_tbl := fun w h => (goodIn_p wsL_law0_r5 [670, 673, 677, 666, 129, 133] rfl (by decide +kernel) w h).1
set_option maxRecDepth 20000 in
theorem lawin_6 : ∀ w ∈ wsL_law0_r6, w ∈ lw_tbl := fun w h => (goodIn_p wsL_law0_r6 [681, 137, 685, 689, 141] rfl (by decide +kernel) w h).1
set_option maxRecDepth 20000 in
theorem lawin_7 : ∀ w ∈ wsL_law0_r7, w ∈ lw_tbl := fun w h => (goodIn_p wsL_law0_r7 [145, 149, 153, 157, 693, 697] rfl (by decide +kernel) w h).1
set_option maxRecDepth 20000 in
theorem lawin_8 : ∀ w ∈ wsL_law0_r8, w ∈ lw_tbl := fun w h => (goodIn_p wsL_law0_r8 [701, 340, 344, 705, 708] rfl (by decide +kernel) w h).1
set_option maxRecDepth 20000 in
theorem lawin_9 : ∀ w ∈ wsL_law0_r9, w ∈ lw_tbl := fun w h => (goodIn_p wsL_law0_r9 [368, 712, 377, 716] rfl (by decide +kernel) w h).1
set_option maxRecDepth 20000 in
theorem lawin_10 : ∀ w ∈ wsL_law0_r10, w ∈ lw_tbl := fun w h => (goodIn_p wsL_law0_r10 [385, 720, 392, 724] rfl (by decide +kernel) w h).1
set_option maxRecDepth 20000 in
theorem lawin_11 : ∀ w ∈ wsL_law0_r11, w ∈ lw_tbl := fun w h => (goodIn_p wsL_law0_r11 [399, 402, 407, 411] rfl (by decide +kernel) w h).1
set_option maxRecDepth 20000 in
theorem lawin_12 : ∀ w ∈ wsL_law0_r12, w ∈ lw_tbl := fun w h => (goodIn_p wsL_law0_r12 [416, 431] rfl (by decide +kernel) w h).1
set_option maxRecDepth 20000 in
theorem lawin_13 : ∀ w ∈ wsL_law0_r13, w ∈ lw_tbl := fun w h => (goodIn_p wsL_law0_r13 [728, 732, 479, 483] rfl (by decide +kernel) w h).1
set_option maxRecDepth 20000 in
theorem lawin_14 : ∀ w ∈ wsL_law0_r14, w ∈ lw_tbl := fun w h => (goodIn_p wsL_law0_r14 [736, 740, 165, 744, 491] rfl (by decide +kernel) w h).1
set_option maxRecDepth 20000 in
theorem lawin_15 : ∀ w ∈ wsL_law0_r15, w ∈ lw_tbl := fun w h => (goodIn_p wsL_law0_r15 [181, 748, 752, 756, 498] rfl (by decide +kernel) w h).1
set_option maxRecDepth 20000 in
theorem lawin_16 : ∀ w ∈ wsL_law0_r16, w ∈ lw_tbl := fun w h => (goodIn_p wsL_law0_r16 [760, 505, 764, 512] rfl (by decide +kernel) w h).1
set_option maxRecDepth 20000 in
theorem lawin_17 : ∀ w ∈ wsL_law0_r17, w ∈ lw_tbl := fun w h => (goodIn_p wsL_law0_r17 [177, 185, 192, 189, 196, 768] rfl (by decide +kernel) w h).1
set_option maxRecDepth 20000 in
theorem lawin_18 : ∀ w ∈ wsL_law0_r18, w ∈ lw_tbl := fun w h => (goodIn_p wsL_law0_r18 [772, 776, 169, 173, 200, 204] rfl (by decide +kernel) w h).1
set_option maxRecDepth 20000 in
theorem lawin_19 : ∀ w ∈ wsL_law0_r19, w ∈ lw_tbl := fun w h => (goodIn_p wsL_law0_r19 [208, 211, 780, 784, 215, 788] rfl (by decide +kernel) w h).1
set_option maxRecDepth 20000 in
theorem lawin_20 : ∀ w ∈ wsL_law0_r20, w ∈ lw_tbl := fun w h => (goodIn_p wsL_law0_r20 [519, 525, 529, 227, 532] rfl (by decide +kernel) w h).1
set_option maxRecDepth 20000 in
theorem lawin_21 : ∀ w ∈ wsL_law0_r21, w ∈ lw_tbl := fun w h => (goodIn_p wsL_law0_r21 [536, 792, 544, 796] rfl (by decide +kernel) w h).1
set_option maxRecDepth 20000 in
theorem lawin_22 : ∀ w ∈ wsL_law0_r22, w ∈ lw_tbl := fun w h => (goodIn_p wsL_law0_r22 [219, 801, 805, 224, 809] rfl (by decide +kernel) w h).1
set_option maxRecDepth 20000 in
theorem lawin_23 : ∀ w ∈ wsL_law0_r23, w ∈ lw_tbl := fun w h => (goodIn_p wsL_law0_r23 [554, 559, 563, 567, 571, 575] rfl (by decide +kernel) w h).1
set_option maxRecDepth 20000 in
theorem lawin_24 : ∀ w ∈ wsL_law0_r24, w ∈ lw_tbl := fun w h => (goodIn_p wsL_law0_r24 [813, 817] rfl (by decide +kernel) w h).1
theorem lawin_X3 : ∀ w ∈ wsX30, w ∈ lw_tbl := by decide +kernel
theorem lawin_X4 : ∀ w ∈ wsX40, w ∈ lw_tbl := by decide +kernel
theorem lawin_X0 : ∀ w ∈ wsX00, w ∈ lw_tbl := by decide +kernel
theorem lawin_X1 : ∀ w ∈ wsX10, w ∈ lw_tbl := by decide +kernel
theorem lawin_X2 : ∀ w ∈ wsX20, w ∈ lw_tbl := by decide +kernel
theorem lawin_rs : ∀ w ∈ (wsL_law0_r1 ++ (wsL_law0_r2 ++ (wsL_law0_r3 ++ (wsL_law0_r4 ++ (wsL_law0_r5 ++ (wsL_law0_r6 ++ (wsL_law0_r7 ++ (wsL_law0_r8 ++ (wsL_law0_r9 ++ (wsL_law0_r10 ++ (wsL_law0_r11 ++ (wsL_law0_r12 ++ (wsL_law0_r13 ++ (wsL_law0_r14 ++ (wsL_law0_r15 ++ (wsL_law0_r16 ++ (wsL_law0_r17 ++ (wsL_law0_r18 ++ (wsL_law0_r19 ++ (wsL_law0_r20 ++ (wsL_law0_r21 ++ (wsL_law0_r22 ++ (wsL_law0_r23 ++ wsL_law0_r24))))))))))))))))))))))), w ∈ lw_tbl := fun w h => (fun h => (List.mem_append.mp h).elim (lawin_1 w) (fun h => (List.mem_append.mp h).elim (lawin_2 w) (fun h => (List.mem_append.mp h).elim (lawin_3 w) (fun h => (List.mem_append.mp h).elim (lawin_4 w) (fun h => (List.mem_append.mp h).elim (lawin_5 w) (fun h => (List.mem_append.mp h).elim (lawin_6 w) (fun h => (List.mem_append.mp h).elim (lawin_7 w) (fun h => (List.mem_append.mp h).elim (lawin_8 w) (fun h => (List.mem_append.mp h).elim (lawin_9 w) (fun h => (List.mem_append.mp h).elim (lawin_10 w) (fun h => (List.mem_append.mp h).elim (lawin_11 w) (fun h => (List.mem_append.mp h).elim (lawin_12 w) (fun h => (List.mem_append.mp h).elim (lawin_13 w) (fun h => (List.mem_append.mp h).elim (lawin_14 w) (fun h => (List.mem_append.mp h).elim (lawin_15 w) (fun h => (List.mem_append.mp h).elim (lawin_16 w) (fun h => (List.mem_append.mp h).elim (lawin_17 w) (fun h => (List.mem_append.mp h).elim (lawin_18 w) (fun h => (List.mem_append.mp h).elim (lawin_19 w) (fun h => (List.mem_append.mp h).elim (lawin_20 w) (fun h => (List.mem_append.mp h).elim (lawin_21 w) (fun h => (List.mem_append.mp h).elim (lawin_22 w) (fun h => (List.mem_append.mp h).elim (lawin_23 w) (lawin_24 w)))))))))))))))))))))))) h
theorem wsL_law_in0 : ∀ w ∈ wsL_law0, w ∈ lw_tbl := fun w h => (List.mem_append.mp h).elim (fun h => (List.mem_append.mp h).elim (fun h => (List.mem_append.mp h).elim (fun h => (List.mem_append.mp h).elim (fun h => (List.mem_append.mp h).elim (fun h => (List.mem_append.mp h).elim (lawin_rs w) (lawin_X3 w)) (lawin_X4 w)) (lawin_X0 w)) (lawin_X1 w)) (lawin_X2 w)) (fun h => nomatch h)
theorem wsL_law_x0 : ∀ w ∈ (vx_atS RX3 43 "java/lang/IllegalArgumentException" ["java/lang/RuntimeException", "java/lang/Exception"]).filter goodWord, w ∈ lw_tbl := by decide +kernel
theorem wsL_law_x1 : ∀ w ∈ (vx_atS RX3 54 "java/lang/IllegalStateException" ["java/lang/RuntimeException", "java/lang/Exception"]).filter goodWord, w ∈ lw_tbl := by decide +kernel
theorem wsL_law_x2 : ∀ w ∈ (vx_atS RX3 205 "java/lang/IndexOutOfBoundsException" ["java/lang/RuntimeException", "java/lang/Exception"]).filter goodWord, w ∈ lw_tbl := by decide +kernel
theorem wsL_law_in : ∀ w ∈ wsL_law, w ∈ lw_tbl := fun w h => (List.mem_append.mp h).elim (fun h => (List.mem_append.mp h).elim (fun h => (List.mem_append.mp h).elim (fun h => wsL_law_in0 w h) (fun h => wsL_law_x0 w h)) (fun h => wsL_law_x1 w h)) (fun h => wsL_law_x2 w h)
theorem inlX0 : ∀ w ∈ wsX00, w ∈ wsL_law := fun _ h => List.mem_append_left _ (List.mem_append_left _ (List.mem_append_left _ (List.mem_append_left _ (List.mem_append_left _ (List.mem_append_left _ (List.mem_append_right _ h))))))
theorem inX0 : ∀ w ∈ wsX00, w ∈ lw_tbl := fun w h => wsL_law_in w (inlX0 w h)
theorem inlX1 : ∀ w ∈ wsX10, w ∈ wsL_law := fun _ h => List.mem_append_left _ (List.mem_append_left _ (List.mem_append_left _ (List.mem_append_left _ (List.mem_append_left _ (List.mem_append_right _ h)))))
theorem inX1 : ∀ w ∈ wsX10, w ∈ lw_tbl := fun w h => wsL_law_in w (inlX1 w h)
theorem inlX2 : ∀ w ∈ wsX20, w ∈ wsL_law := fun _ h => List.mem_append_left _ (List.mem_append_left _ (List.mem_append_left _ (List.mem_append_left _ (List.mem_append_right _ h))))
theorem inX2 : ∀ w ∈ wsX20, w ∈ lw_tbl := fun w h => wsL_law_in w (inlX2 w h)
theorem inlX3 : ∀ w ∈ wsX30, w ∈ wsL_law := fun _ h => List.mem_append_left _ (List.mem_append_left _ (List.mem_append_left _ (List.mem_append_left _ (List.mem_append_left _ (List.mem_append_left _ (List.mem_append_left _ (List.mem_append_left _ (List.mem_append_right _ h))))))))
theorem inX3 : ∀ w ∈ wsX30, w ∈ lw_tbl := fun w h => wsL_law_in w (inlX3 w h)
theorem inlX4 : ∀ w ∈ wsX40, w ∈ wsL_law := fun _ h => List.mem_append_left _ (List.mem_append_left _ (List.mem_append_left _ (List.mem_append_left _ (List.mem_append_left _ (List.mem_append_left _ (List.mem_append_left _ (List.mem_append_right _ h)))))))
theorem inX4 : ∀ w ∈ wsX40, w ∈ lw_tbl := fun w h => wsL_law_in w (inlX4 w h)
theorem inJx8e188 : ∀ w ∈ wsJx8e1880, w ∈ lw_tbl := by decide +kernel
theorem inJ9 : ∀ w ∈ wsJ90, w ∈ lw_tbl := by decide +kernel
theorem inJ0 : ∀ w ∈ wsJ00, w ∈ lw_tbl := by decide +kernel
