theorem zz_or {a b c : Prop} (x : a → c) (y : b → c) : a ∨ b → c := fun h => h.elim x y
set_option maxRecDepth 20000 in
theorem wsL_law_in : ∀ w ∈ wsL_law, w ∈ lw_tbl := by
  intro w h
  unfold wsL_law at h
  simp only [List.mem_append] at h
  exact (zz_or (zz_or (zz_or (zz_or (zz_or (zz_or (zz_or (zz_or (zz_or (zz_or (zz_or (zi_wsL_law_r1 w) (zz_or (zi_wsL_law_r2 w) (zz_or (zi_wsL_law_r3 w) (zz_or (zi_wsL_law_r4 w) (zz_or (zi_wsL_law_r5 w) (zz_or (zi_wsL_law_r6 w) (zz_or (zi_wsL_law_r7 w) (zz_or (zi_wsL_law_r8 w) (zz_or (zi_wsL_law_r9 w) (zz_or (zi_wsL_law_r10 w) (zz_or (zi_wsL_law_r11 w) (zz_or (zi_wsL_law_r12 w) (zz_or (zi_wsL_law_r13 w) (zz_or (zi_wsL_law_r14 w) (zz_or (zi_wsL_law_r15 w) (zz_or (zi_wsL_law_r16 w) (zz_or (zi_wsL_law_r17 w) (zz_or (zi_wsL_law_r18 w) (zz_or (zi_wsL_law_r19 w) (zz_or (zi_wsL_law_r20 w) (zz_or (zi_wsL_law_r21 w) (zz_or (zi_wsL_law_r22 w) (zz_or (zi_wsL_law_r23 w) (zz_or (zi_wsL_law_r24 w) (zz_or (zi_wsL_law_r25 w) (zz_or (zi_wsL_law_r26 w) (zz_or (zi_wsL_law_r27 w) (zz_or (zi_wsL_law_r28 w) (zz_or (zi_wsL_law_r29 w) (zz_or (zi_wsL_law_r30 w) (zz_or (zi_wsL_law_r31 w) (zz_or (zi_wsL_law_r32 w) (zz_or (zi_wsL_law_r33 w) (zz_or (zi_wsL_law_r34 w) (zz_or (zi_wsL_law_r35 w) (zz_or (zi_wsL_law_r36 w) (zz_or (zi_wsL_law_r37 w) (zz_or (zi_wsL_law_r38 w) (zz_or (zi_wsL_law_r39 w) (zz_or (zi_wsL_law_r40 w) (zz_or (zi_wsL_law_r41 w) (zz_or (zi_wsL_law_r42 w) (zi_wsL_law_r43 w))))))))))))))))))))))))))))))))))))))))))) (zi_wsX70 w)) (zi_wsX80 w)) (zi_wsX60 w)) (zi_wsX00 w)) (zi_wsX30 w)) (zi_wsX40 w)) (zi_wsX20 w)) (zi_wsX10 w)) (zi_wsX50 w)) (fun z => absurd z List.not_mem_nil)) h
theorem inlX0 : ∀ w ∈ wsX00, w ∈ wsL_law := fun _ h => List.mem_append_left _ (List.mem_append_left _ (List.mem_append_left _ (List.mem_append_left _ (List.mem_append_left _ (List.mem_append_left _ (List.mem_append_right _ h))))))
theorem inX0 : ∀ w ∈ wsX00, w ∈ lw_tbl := fun w h => wsL_law_in w (inlX0 w h)
theorem inlX1 : ∀ w ∈ wsX10, w ∈ wsL_law := fun _ h => List.mem_append_left _ (List.mem_append_left _ (List.mem_append_right _ h))
theorem inX1 : ∀ w ∈ wsX10, w ∈ lw_tbl := fun w h => wsL_law_in w (inlX1 w h)
theorem inlX2 : ∀ w ∈ wsX20, w ∈ wsL_law := fun _ h => List.mem_append_left _ (List.mem_append_left _ (List.mem_append_left _ (List.mem_append_right _ h)))
theorem inX2 : ∀ w ∈ wsX20, w ∈ lw_tbl := fun w h => wsL_law_in w (inlX2 w h)
theorem inlX3 : ∀ w ∈ wsX30, w ∈ wsL_law := fun _ h => List.mem_append_left _ (List.mem_append_left _ (List.mem_append_left _ (List.mem_append_left _ (List.mem_append_left _ (List.mem_append_right _ h)))))
theorem inX3 : ∀ w ∈ wsX30, w ∈ lw_tbl := fun w h => wsL_law_in w (inlX3 w h)
theorem inlX4 : ∀ w ∈ wsX40, w ∈ wsL_law := fun _ h => List.mem_append_left _ (List.mem_append_left _ (List.mem_append_left _ (List.mem_append_left _ (List.mem_append_right _ h))))
theorem inX4 : ∀ w ∈ wsX40, w ∈ lw_tbl := fun w h => wsL_law_in w (inlX4 w h)
theorem inlX5 : ∀ w ∈ wsX50, w ∈ wsL_law := fun _ h => List.mem_append_left _ (List.mem_append_right _ h)
theorem inX5 : ∀ w ∈ wsX50, w ∈ lw_tbl := fun w h => wsL_law_in w (inlX5 w h)
theorem inlX6 : ∀ w ∈ wsX60, w ∈ wsL_law := fun _ h => List.mem_append_left _ (List.mem_append_left _ (List.mem_append_left _ (List.mem_append_left _ (List.mem_append_left _ (List.mem_append_left _ (List.mem_append_left _ (List.mem_append_right _ h)))))))
theorem inX6 : ∀ w ∈ wsX60, w ∈ lw_tbl := fun w h => wsL_law_in w (inlX6 w h)
theorem inlX7 : ∀ w ∈ wsX70, w ∈ wsL_law := fun _ h => List.mem_append_left _ (List.mem_append_left _ (List.mem_append_left _ (List.mem_append_left _ (List.mem_append_left _ (List.mem_append_left _ (List.mem_append_left _ (List.mem_append_left _ (List.mem_append_left _ (List.mem_append_right _ h)))))))))
theorem inX7 : ∀ w ∈ wsX70, w ∈ lw_tbl := fun w h => wsL_law_in w (inlX7 w h)
theorem inlX8 : ∀ w ∈ wsX80, w ∈ wsL_law := fun _ h => List.mem_append_left _ (List.mem_append_left _ (List.mem_append_left _ (List.mem_append_left _ (List.mem_append_left _ (List.mem_append_left _ (List.mem_append_left _ (List.mem_append_left _ (List.mem_append_right _ h))))))))
theorem inX8 : ∀ w ∈ wsX80, w ∈ lw_tbl := fun w h => wsL_law_in w (inlX8 w h)
