theorem wsX70_in : ∀ w ∈ wsX70, w ∈ lw_tbl := by decide +kernel
theorem wsX80_in : ∀ w ∈ wsX80, w ∈ lw_tbl := by decide +kernel
theorem wsX50_in : ∀ w ∈ wsX50, w ∈ lw_tbl := by decide +kernel
theorem wsX60_in : ∀ w ∈ wsX60, w ∈ lw_tbl := by decide +kernel
theorem wsX30_in : ∀ w ∈ wsX30, w ∈ lw_tbl := by decide +kernel
theorem wsX00_in : ∀ w ∈ wsX00, w ∈ lw_tbl := by decide +kernel
theorem wsX40_in : ∀ w ∈ wsX40, w ∈ lw_tbl := by decide +kernel
theorem wsX10_in : ∀ w ∈ wsX10, w ∈ lw_tbl := by decide +kernel
theorem wsX20_in : ∀ w ∈ wsX20, w ∈ lw_tbl := by decide +kernel
theorem wsL_law_in : ∀ w ∈ wsL_law, w ∈ lw_tbl := fun w h => by
  simp only [wsL_law, List.mem_append, List.not_mem_nil, or_false] at h
  rcases h with ((((((((h | h) | h) | h) | h) | h) | h) | h) | h) | h
  · rcases h with h | h | h | h | h | h | h | h | h | h | h | h | h | h | h | h | h | h | h | h | h | h | h | h | h | h | h | h | h | h | h | h | h | h | h
    · exact wsL_law_r1_in w h
    · exact wsL_law_r2_in w h
    · exact wsL_law_r3_in w h
    · exact wsL_law_r4_in w h
    · exact wsL_law_r5_in w h
    · exact wsL_law_r6_in w h
    · exact wsL_law_r7_in w h
    · exact wsL_law_r8_in w h
    · exact wsL_law_r9_in w h
    · exact wsL_law_r10_in w h
    · exact wsL_law_r11_in w h
    · exact wsL_law_r12_in w h
    · exact wsL_law_r13_in w h
    · exact wsL_law_r14_in w h
    · exact wsL_law_r15_in w h
    · exact wsL_law_r16_in w h
    · exact wsL_law_r17_in w h
    · exact wsL_law_r18_in w h
    · exact wsL_law_r19_in w h
    · exact wsL_law_r20_in w h
    · exact wsL_law_r21_in w h
    · exact wsL_law_r22_in w h
    · exact wsL_law_r23_in w h
    · exact wsL_law_r24_in w h
    · exact wsL_law_r25_in w h
    · exact wsL_law_r26_in w h
    · exact wsL_law_r27_in w h
    · exact wsL_law_r28_in w h
    · exact wsL_law_r29_in w h
    · exact wsL_law_r30_in w h
    · exact wsL_law_r31_in w h
    · exact wsL_law_r32_in w h
    · exact wsL_law_r33_in w h
    · exact wsL_law_r34_in w h
    · exact wsL_law_r35_in w h
  · exact wsX70_in w h
  · exact wsX80_in w h
  · exact wsX50_in w h
  · exact wsX60_in w h
  · exact wsX30_in w h
  · exact wsX00_in w h
  · exact wsX40_in w h
  · exact wsX10_in w h
  · exact wsX20_in w h
