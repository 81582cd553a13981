theorem li_r1 : ∀ w ∈ wsL_law0_r1, w ∈ lw_tbl := fun w h => (goodIn_p wsL_law0_r1 [59, 62] (by decide +kernel) (by decide +kernel) w h).1
theorem li_r2 : ∀ w ∈ wsL_law0_r2, w ∈ lw_tbl := fun w h => (goodIn_p wsL_law0_r2 [67, 85] (by decide +kernel) (by decide +kernel) w h).1
theorem li_r3 : ∀ w ∈ wsL_law0_r3, w ∈ lw_tbl := fun w h => (goodIn_p wsL_law0_r3 [105, 139, 146, 596] (by decide +kernel) (by decide +kernel) w h).1
theorem li_r4 : ∀ w ∈ wsL_law0_r4, w ∈ lw_tbl := fun w h => (goodIn_p wsL_law0_r4 [] (by decide +kernel) (by decide +kernel) w h).1
theorem li_r5 : ∀ w ∈ wsL_law0_r5, w ∈ lw_tbl := fun w h => (goodIn_p wsL_law0_r5 [221] (by decide +kernel) (by decide +kernel) w h).1
theorem li_r6 : ∀ w ∈ wsL_law0_r6, w ∈ lw_tbl := fun w h => (goodIn_p wsL_law0_r6 [224, 294, 314] (by decide +kernel) (by decide +kernel) w h).1
theorem li_r7 : ∀ w ∈ wsL_law0_r7, w ∈ lw_tbl := fun w h => (goodIn_p wsL_law0_r7 [376, 380, 724, 727, 730] (by decide +kernel) (by decide +kernel) w h).1
theorem li_r8 : ∀ w ∈ wsL_law0_r8, w ∈ lw_tbl := fun w h => (goodIn_p wsL_law0_r8 [734, 720, 387, 390, 738] (by decide +kernel) (by decide +kernel) w h).1
theorem li_r9 : ∀ w ∈ wsL_law0_r9, w ∈ lw_tbl := fun w h => (goodIn_p wsL_law0_r9 [742, 397, 400, 746, 749] (by decide +kernel) (by decide +kernel) w h).1
theorem li_r10 : ∀ w ∈ wsL_law0_r10, w ∈ lw_tbl := fun w h => (goodIn_p wsL_law0_r10 [410, 414, 418, 422, 426, 430] (by decide +kernel) (by decide +kernel) w h).1
theorem li_r11 : ∀ w ∈ wsL_law0_r11, w ∈ lw_tbl := fun w h => (goodIn_p wsL_law0_r11 [433, 437, 441, 445, 449, 453] (by decide +kernel) (by decide +kernel) w h).1
theorem li_r12 : ∀ w ∈ wsL_law0_r12, w ∈ lw_tbl := fun w h => (goodIn_p wsL_law0_r12 [457, 461, 466, 470, 474, 479] (by decide +kernel) (by decide +kernel) w h).1
theorem li_r13 : ∀ w ∈ wsL_law0_r13, w ∈ lw_tbl := fun w h => (goodIn_p wsL_law0_r13 [485, 489, 493, 497, 753, 757] (by decide +kernel) (by decide +kernel) w h).1
theorem li_r14 : ∀ w ∈ wsL_law0_r14, w ∈ lw_tbl := fun w h => (goodIn_p wsL_law0_r14 [761, 765, 769, 773, 777, 781] (by decide +kernel) (by decide +kernel) w h).1
theorem li_r15 : ∀ w ∈ wsL_law0_r15, w ∈ lw_tbl := fun w h => (goodIn_p wsL_law0_r15 [785, 789, 793, 505, 797] (by decide +kernel) (by decide +kernel) w h).1
theorem li_r16 : ∀ w ∈ wsL_law0_r16, w ∈ lw_tbl := fun w h => (goodIn_p wsL_law0_r16 [512, 801, 519, 805] (by decide +kernel) (by decide +kernel) w h).1
theorem li_r17 : ∀ w ∈ wsL_law0_r17, w ∈ lw_tbl := fun w h => (goodIn_p wsL_law0_r17 [526, 809, 812, 533, 537, 816] (by decide +kernel) (by decide +kernel) w h).1
theorem li_r18 : ∀ w ∈ wsL_law0_r18, w ∈ lw_tbl := fun w h => (goodIn_p wsL_law0_r18 [212, 820, 544, 548, 824] (by decide +kernel) (by decide +kernel) w h).1
theorem li_r19 : ∀ w ∈ wsL_law0_r19, w ∈ lw_tbl := fun w h => (goodIn_p wsL_law0_r19 [556, 828, 564, 832] (by decide +kernel) (by decide +kernel) w h).1
theorem li_r20 : ∀ w ∈ wsL_law0_r20, w ∈ lw_tbl := fun w h => (goodIn_p wsL_law0_r20 [571, 836, 579, 583, 840, 844] (by decide +kernel) (by decide +kernel) w h).1
theorem li_r21 : ∀ w ∈ wsL_law0_r21, w ∈ lw_tbl := fun w h => (goodIn_p wsL_law0_r21 [591, 848] (by decide +kernel) (by decide +kernel) w h).1
theorem li_x6 : ∀ w ∈ wsX60, w ∈ lw_tbl := by decide +kernel
theorem li_x7 : ∀ w ∈ wsX70, w ∈ lw_tbl := by decide +kernel
theorem li_x5 : ∀ w ∈ wsX50, w ∈ lw_tbl := by decide +kernel
theorem li_x2 : ∀ w ∈ wsX20, w ∈ lw_tbl := by decide +kernel
theorem li_x0 : ∀ w ∈ wsX00, w ∈ lw_tbl := by decide +kernel
theorem li_x4 : ∀ w ∈ wsX40, w ∈ lw_tbl := by decide +kernel
theorem li_x1 : ∀ w ∈ wsX10, w ∈ lw_tbl := by decide +kernel
theorem li_x3 : ∀ w ∈ wsX30, w ∈ lw_tbl := by decide +kernel
theorem wsL_law_in0 : ∀ w ∈ wsL_law0, w ∈ lw_tbl := fun w h => (List.mem_append.mp h).elim (fun h => (List.mem_append.mp h).elim (fun h => (List.mem_append.mp h).elim (fun h => (List.mem_append.mp h).elim (fun h => (List.mem_append.mp h).elim (fun h => (List.mem_append.mp h).elim (fun h => (List.mem_append.mp h).elim (fun h => (List.mem_append.mp h).elim (fun h => (List.mem_append.mp h).elim (fun h => (List.mem_append.mp h).elim (fun h => li_r1 w h) (fun h => (List.mem_append.mp h).elim (fun h => li_r2 w h) (fun h => (List.mem_append.mp h).elim (fun h => li_r3 w h) (fun h => (List.mem_append.mp h).elim (fun h => li_r4 w h) (fun h => (List.mem_append.mp h).elim (fun h => li_r5 w h) (fun h => (List.mem_append.mp h).elim (fun h => li_r6 w h) (fun h => (List.mem_append.mp h).elim (fun h => li_r7 w h) (fun h => (List.mem_append.mp h).elim (fun h => li_r8 w h) (fun h => (List.mem_append.mp h).elim (fun h => li_r9 w h) (fun h => (List.mem_append.mp h).elim (fun h => li_r10 w h) (fun h => (List.mem_append.mp h).elim (fun h => li_r11 w h) (fun h => (List.mem_append.mp h).elim (fun h => li_r12 w h) (fun h => (List.mem_append.mp h).elim (fun h => li_r13 w h) (fun h => (List.mem_append.mp h).elim (fun h => li_r14 w h) (fun h => (List.mem_append.mp h).elim (fun h => li_r15 w h) (fun h => (List.mem_append.mp h).elim (fun h => li_r16 w h) (fun h => (List.mem_append.mp h).elim (fun h => li_r17 w h) (fun h => (List.mem_append.mp h).elim (fun h => li_r18 w h) (fun h => (List.mem_append.mp h).elim (fun h => li_r19 w h) (fun h => (List.mem_append.mp h).elim (fun h => li_r20 w h) (fun h => li_r21 w h))))))))))))))))))))) (fun h => li_x6 w h)) (fun h => li_x7 w h)) (fun h => li_x5 w h)) (fun h => li_x2 w h)) (fun h => li_x0 w h)) (fun h => li_x4 w h)) (fun h => li_x1 w h)) (fun h => li_x3 w h)) (fun h => absurd h List.not_mem_nil)
theorem wsL_law_x0 : ∀ w ∈ (vx_atS RX6 156 "java/lang/IndexOutOfBoundsException" ["java/lang/RuntimeException", "java/lang/Exception"]).filter goodWord, w ∈ lw_tbl := by decide +kernel
theorem wsL_law_x1 : ∀ w ∈ (vx_atS RX6 199 "java/lang/IllegalArgumentException" ["java/lang/RuntimeException", "java/lang/Exception"]).filter goodWord, w ∈ lw_tbl := by decide +kernel
theorem wsL_law_in : ∀ w ∈ wsL_law, w ∈ lw_tbl := fun w h => (List.mem_append.mp h).elim (fun h => (List.mem_append.mp h).elim (fun h => wsL_law_in0 w h) (fun h => wsL_law_x0 w h)) (fun h => wsL_law_x1 w h)
theorem inX0 : ∀ w ∈ wsX00, w ∈ lw_tbl := fun w h => wsL_law_in w (inlX0 w h)
theorem inX1 : ∀ w ∈ wsX10, w ∈ lw_tbl := fun w h => wsL_law_in w (inlX1 w h)
theorem inX2 : ∀ w ∈ wsX20, w ∈ lw_tbl := fun w h => wsL_law_in w (inlX2 w h)
theorem inX3 : ∀ w ∈ wsX30, w ∈ lw_tbl := fun w h => wsL_law_in w (inlX3 w h)
theorem inX4 : ∀ w ∈ wsX40, w ∈ lw_tbl := fun w h => wsL_law_in w (inlX4 w h)
theorem inX5 : ∀ w ∈ wsX50, w ∈ lw_tbl := fun w h => wsL_law_in w (inlX5 w h)
theorem inX6 : ∀ w ∈ wsX60, w ∈ lw_tbl := fun w h => wsL_law_in w (inlX6 w h)
theorem inX7 : ∀ w ∈ wsX70, w ∈ lw_tbl := fun w h => wsL_law_in w (inlX7 w h)
