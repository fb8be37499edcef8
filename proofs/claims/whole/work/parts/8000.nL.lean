theorem lwin_r1 : ∀ w ∈ wsL_law_r1, w ∈ lw_tbl := by decide +kernel
theorem lwin_r2 : ∀ w ∈ wsL_law_r2, w ∈ lw_tbl := by decide +kernel
theorem lwin_r3 : ∀ w ∈ wsL_law_r3, w ∈ lw_tbl := by decide +kernel
theorem lwin_r4 : ∀ w ∈ wsL_law_r4, w ∈ lw_tbl := by decide +kernel
theorem lwin_r5 : ∀ w ∈ wsL_law_r5, w ∈ lw_tbl := by decide +kernel
theorem lwin_r6 : ∀ w ∈ wsL_law_r6, w ∈ lw_tbl := by decide +kernel
theorem lwin_r7 : ∀ w ∈ wsL_law_r7, w ∈ lw_tbl := by decide +kernel
theorem lwin_r8 : ∀ w ∈ wsL_law_r8, w ∈ lw_tbl := by decide +kernel
theorem lwin_r9 : ∀ w ∈ wsL_law_r9, w ∈ lw_tbl := by decide +kernel
theorem lwin_r10 : ∀ w ∈ wsL_law_r10, w ∈ lw_tbl := by decide +kernel
theorem lwin_r11 : ∀ w ∈ wsL_law_r11, w ∈ lw_tbl := by decide +kernel
theorem lwin_r12 : ∀ w ∈ wsL_law_r12, w ∈ lw_tbl := by decide +kernel
theorem lwin_r13 : ∀ w ∈ wsL_law_r13, w ∈ lw_tbl := by decide +kernel
theorem lwin_r14 : ∀ w ∈ wsL_law_r14, w ∈ lw_tbl := by decide +kernel
theorem lwin_r15 : ∀ w ∈ wsL_law_r15, w ∈ lw_tbl := by decide +kernel
theorem lwin_r16 : ∀ w ∈ wsL_law_r16, w ∈ lw_tbl := by decide +kernel
theorem lwin_r17 : ∀ w ∈ wsL_law_r17, w ∈ lw_tbl := by decide +kernel
theorem lwin_r18 : ∀ w ∈ wsL_law_r18, w ∈ lw_tbl := by decide +kernel
theorem lwin_r19 : ∀ w ∈ wsL_law_r19, w ∈ lw_tbl := by decide +kernel
theorem lwin_r20 : ∀ w ∈ wsL_law_r20, w ∈ lw_tbl := by decide +kernel
theorem lwin_r21 : ∀ w ∈ wsL_law_r21, w ∈ lw_tbl := by decide +kernel
theorem lwin_r22 : ∀ w ∈ wsL_law_r22, w ∈ lw_tbl := by decide +kernel
theorem lwin_r23 : ∀ w ∈ wsL_law_r23, w ∈ lw_tbl := by decide +kernel
theorem lwin_r24 : ∀ w ∈ wsL_law_r24, w ∈ lw_tbl := by decide +kernel
theorem lwin_r25 : ∀ w ∈ wsL_law_r25, w ∈ lw_tbl := by decide +kernel
theorem lwin_r26 : ∀ w ∈ wsL_law_r26, w ∈ lw_tbl := by decide +kernel
theorem lwin_r27 : ∀ w ∈ wsL_law_r27, w ∈ lw_tbl := by decide +kernel
theorem lwin_r28 : ∀ w ∈ wsL_law_r28, w ∈ lw_tbl := by decide +kernel
theorem lwin_r29 : ∀ w ∈ wsL_law_r29, w ∈ lw_tbl := by decide +kernel
theorem lwin_r30 : ∀ w ∈ wsL_law_r30, w ∈ lw_tbl := by decide +kernel
theorem lwin_r31 : ∀ w ∈ wsL_law_r31, w ∈ lw_tbl := by decide +kernel
theorem lwin_r32 : ∀ w ∈ wsL_law_r32, w ∈ lw_tbl := by decide +kernel
theorem lwin_r33 : ∀ w ∈ wsL_law_r33, w ∈ lw_tbl := by decide +kernel
theorem lwin_r34 : ∀ w ∈ wsL_law_r34, w ∈ lw_tbl := by decide +kernel
theorem lwin_r35 : ∀ w ∈ wsL_law_r35, w ∈ lw_tbl := by decide +kernel
theorem lwin_r36 : ∀ w ∈ wsL_law_r36, w ∈ lw_tbl := by decide +kernel
theorem lwin_r37 : ∀ w ∈ wsL_law_r37, w ∈ lw_tbl := by decide +kernel
theorem lwin_r38 : ∀ w ∈ wsL_law_r38, w ∈ lw_tbl := by decide +kernel
theorem lwin_r39 : ∀ w ∈ wsL_law_r39, w ∈ lw_tbl := by decide +kernel
theorem lwin_r40 : ∀ w ∈ wsL_law_r40, w ∈ lw_tbl := by decide +kernel
theorem lwin_r41 : ∀ w ∈ wsL_law_r41, w ∈ lw_tbl := by decide +kernel
theorem lwin_r42 : ∀ w ∈ wsL_law_r42, w ∈ lw_tbl := by decide +kernel
theorem lwin_r43 : ∀ w ∈ wsL_law_r43, w ∈ lw_tbl := by decide +kernel
theorem lwin_r44 : ∀ w ∈ wsL_law_r44, w ∈ lw_tbl := by decide +kernel
theorem lwin_r45 : ∀ w ∈ wsL_law_r45, w ∈ lw_tbl := by decide +kernel
theorem lwin_X70 : ∀ w ∈ wsX70, w ∈ lw_tbl := by decide +kernel
theorem lwin_X80 : ∀ w ∈ wsX80, w ∈ lw_tbl := by decide +kernel
theorem lwin_X40 : ∀ w ∈ wsX40, w ∈ lw_tbl := by decide +kernel
theorem lwin_X60 : ∀ w ∈ wsX60, w ∈ lw_tbl := by decide +kernel
theorem lwin_X10 : ∀ w ∈ wsX10, w ∈ lw_tbl := by decide +kernel
theorem lwin_X00 : ∀ w ∈ wsX00, w ∈ lw_tbl := by decide +kernel
theorem lwin_X30 : ∀ w ∈ wsX30, w ∈ lw_tbl := by decide +kernel
theorem lwin_X20 : ∀ w ∈ wsX20, w ∈ lw_tbl := by decide +kernel
theorem lwin_app {a b : List Cond} (ha : ∀ w ∈ a, w ∈ lw_tbl) (hb : ∀ w ∈ b, w ∈ lw_tbl) : ∀ w ∈ a ++ b, w ∈ lw_tbl := fun w h => (List.mem_append.mp h).elim (ha w) (hb w)
theorem wsL_law_in : ∀ w ∈ wsL_law, w ∈ lw_tbl := lwin_app (lwin_app (lwin_app (lwin_app (lwin_app (lwin_app (lwin_app (lwin_app (lwin_app (lwin_app lwin_r1 (lwin_app lwin_r2 (lwin_app lwin_r3 (lwin_app lwin_r4 (lwin_app lwin_r5 (lwin_app lwin_r6 (lwin_app lwin_r7 (lwin_app lwin_r8 (lwin_app lwin_r9 (lwin_app lwin_r10 (lwin_app lwin_r11 (lwin_app lwin_r12 (lwin_app lwin_r13 (lwin_app lwin_r14 (lwin_app lwin_r15 (lwin_app lwin_r16 (lwin_app lwin_r17 (lwin_app lwin_r18 (lwin_app lwin_r19 (lwin_app lwin_r20 (lwin_app lwin_r21 (lwin_app lwin_r22 (lwin_app lwin_r23 (lwin_app lwin_r24 (lwin_app lwin_r25 (lwin_app lwin_r26 (lwin_app lwin_r27 (lwin_app lwin_r28 (lwin_app lwin_r29 (lwin_app lwin_r30 (lwin_app lwin_r31 (lwin_app lwin_r32 (lwin_app lwin_r33 (lwin_app lwin_r34 (lwin_app lwin_r35 (lwin_app lwin_r36 (lwin_app lwin_r37 (lwin_app lwin_r38 (lwin_app lwin_r39 (lwin_app lwin_r40 (lwin_app lwin_r41 (lwin_app lwin_r42 (lwin_app lwin_r43 (lwin_app lwin_r44 lwin_r45)))))))))))))))))))))))))))))))))))))))))))) lwin_X70) lwin_X80) lwin_X40) lwin_X60) lwin_X10) lwin_X00) lwin_X30) lwin_X20) (fun _ h => absurd h List.not_mem_nil)
theorem inlX0 : ∀ w ∈ wsX00, w ∈ wsL_law := fun _ h => List.mem_append_left _ (List.mem_append_left _ (List.mem_append_left _ (List.mem_append_right _ h)))
theorem inX0 : ∀ w ∈ wsX00, w ∈ lw_tbl := fun w h => wsL_law_in w (inlX0 w h)
theorem inlX1 : ∀ w ∈ wsX10, w ∈ wsL_law := fun _ h => List.mem_append_left _ (List.mem_append_left _ (List.mem_append_left _ (List.mem_append_left _ (List.mem_append_right _ h))))
theorem inX1 : ∀ w ∈ wsX10, w ∈ lw_tbl := fun w h => wsL_law_in w (inlX1 w h)
theorem inlX2 : ∀ w ∈ wsX20, w ∈ wsL_law := fun _ h => List.mem_append_left _ (List.mem_append_right _ h)
theorem inX2 : ∀ w ∈ wsX20, w ∈ lw_tbl := fun w h => wsL_law_in w (inlX2 w h)
theorem inlX3 : ∀ w ∈ wsX30, w ∈ wsL_law := fun _ h => List.mem_append_left _ (List.mem_append_left _ (List.mem_append_right _ h))
theorem inX3 : ∀ w ∈ wsX30, w ∈ lw_tbl := fun w h => wsL_law_in w (inlX3 w h)
theorem inlX4 : ∀ w ∈ wsX40, w ∈ wsL_law := fun _ h => List.mem_append_left _ (List.mem_append_left _ (List.mem_append_left _ (List.mem_append_left _ (List.mem_append_left _ (List.mem_append_left _ (List.mem_append_right _ h))))))
theorem inX4 : ∀ w ∈ wsX40, w ∈ lw_tbl := fun w h => wsL_law_in w (inlX4 w h)
theorem inX5 : ∀ w ∈ wsX50, w ∈ lw_tbl := by decide +kernel
theorem inlX6 : ∀ w ∈ wsX60, w ∈ wsL_law := fun _ h => List.mem_append_left _ (List.mem_append_left _ (List.mem_append_left _ (List.mem_append_left _ (List.mem_append_left _ (List.mem_append_right _ h)))))
theorem inX6 : ∀ w ∈ wsX60, w ∈ lw_tbl := fun w h => wsL_law_in w (inlX6 w h)
theorem inlX7 : ∀ w ∈ wsX70, w ∈ wsL_law := fun _ h => List.mem_append_left _ (List.mem_append_left _ (List.mem_append_left _ (List.mem_append_left _ (List.mem_append_left _ (List.mem_append_left _ (List.mem_append_left _ (List.mem_append_left _ (List.mem_append_right _ h))))))))
theorem inX7 : ∀ w ∈ wsX70, w ∈ lw_tbl := fun w h => wsL_law_in w (inlX7 w h)
theorem inlX8 : ∀ w ∈ wsX80, w ∈ wsL_law := fun _ h => List.mem_append_left _ (List.mem_append_left _ (List.mem_append_left _ (List.mem_append_left _ (List.mem_append_left _ (List.mem_append_left _ (List.mem_append_left _ (List.mem_append_right _ h)))))))
theorem inX8 : ∀ w ∈ wsX80, w ∈ lw_tbl := fun w h => wsL_law_in w (inlX8 w h)
theorem inJ6 : ∀ w ∈ wsJ60, w ∈ lw_tbl := by decide +kernel
theorem inJ9 : ∀ w ∈ wsJ90, w ∈ lw_tbl := by decide +kernel
theorem inJ0 : ∀ w ∈ wsJ00, w ∈ lw_tbl := by decide +kernel
theorem inJ1 : ∀ w ∈ wsJ10, w ∈ lw_tbl := by decide +kernel
theorem inJ2 : ∀ w ∈ wsJ20, w ∈ lw_tbl := by decide +kernel
theorem inJ10 : ∀ w ∈ wsJ100, w ∈ lw_tbl := by decide +kernel
theorem inJ3 : ∀ w ∈ wsJ30, w ∈ lw_tbl := by decide +kernel
