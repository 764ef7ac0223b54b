set_option maxRecDepth 20000 in
theorem gwsL_law0_r13 : GoodIn lw_tbl wsL_law0_r13 := goodIn_p wsL_law0_r13 [91, 588, 393, 592, 596] (by decide +kernel) (by decide +kernel)
set_option maxRecDepth 20000 in
theorem gwsL_law0_r14 : GoodIn lw_tbl wsL_law0_r14 := goodIn_p wsL_law0_r14 [400, 114, 600, 604, 407] (by decide +kernel) (by decide +kernel)
set_option maxRecDepth 20000 in
theorem gwsL_law0_r15 : GoodIn lw_tbl wsL_law0_r15 := goodIn_p wsL_law0_r15 [608, 95, 612, 415, 133] (by decide +kernel) (by decide +kernel)
set_option maxRecDepth 20000 in
theorem gwsL_law0_r16 : GoodIn lw_tbl wsL_law0_r16 := goodIn_p wsL_law0_r16 [137, 616, 620, 125, 129] (by decide +kernel) (by decide +kernel)
set_option maxRecDepth 20000 in
theorem gwsL_law0_r17 : GoodIn lw_tbl wsL_law0_r17 := goodIn_p wsL_law0_r17 [153, 624, 423, 628, 157, 632] (by decide +kernel) (by decide +kernel)
set_option maxRecDepth 20000 in
theorem gwsL_law0_r18 : GoodIn lw_tbl wsL_law0_r18 := goodIn_p wsL_law0_r18 [430, 636, 640, 161, 644] (by decide +kernel) (by decide +kernel)
set_option maxRecDepth 20000 in
theorem gwsL_law0_r19 : GoodIn lw_tbl wsL_law0_r19 := goodIn_p wsL_law0_r19 [437, 441, 445, 449, 648] (by decide +kernel) (by decide +kernel)
set_option maxRecDepth 20000 in
theorem gwsL_law0_r20 : GoodIn lw_tbl wsL_law0_r20 := goodIn_p wsL_law0_r20 [652, 456, 656] (by decide +kernel) (by decide +kernel)
theorem gwsX00 : ∀ w ∈ wsX00, w ∈ lw_tbl := by decide +kernel
theorem gwsX10 : ∀ w ∈ wsX10, w ∈ lw_tbl := by decide +kernel
theorem wsL_law_in0 : ∀ w ∈ wsL_law0, w ∈ lw_tbl := fun w h => by
  have g := goodIn_app gwsL_law0_r1 (goodIn_app gwsL_law0_r2 (goodIn_app gwsL_law0_r3 (goodIn_app gwsL_law0_r4 (goodIn_app gwsL_law0_r5 (goodIn_app gwsL_law0_r6 (goodIn_app gwsL_law0_r7 (goodIn_app gwsL_law0_r8 (goodIn_app gwsL_law0_r9 (goodIn_app gwsL_law0_r10 (goodIn_app gwsL_law0_r11 (goodIn_app gwsL_law0_r12 (goodIn_app gwsL_law0_r13 (goodIn_app gwsL_law0_r14 (goodIn_app gwsL_law0_r15 (goodIn_app gwsL_law0_r16 (goodIn_app gwsL_law0_r17 (goodIn_app gwsL_law0_r18 (goodIn_app gwsL_law0_r19 (gwsL_law0_r20)))))))))))))))))))
  rcases List.mem_append.mp h with h | h
  · rcases List.mem_append.mp h with h | h
    · rcases List.mem_append.mp h with h | h
      · exact (g w h).1
      · exact gwsX00 w h
    · exact gwsX10 w h
  · exact absurd h List.not_mem_nil
