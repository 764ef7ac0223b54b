set_option maxRecDepth 20000 in
theorem gwsL_law0_r1 : GoodIn lw_tbl wsL_law0_r1 := goodIn_p wsL_law0_r1 [35, 38, 65, 72] (by decide +kernel) (by decide +kernel)
set_option maxRecDepth 20000 in
theorem gwsL_law0_r2 : GoodIn lw_tbl wsL_law0_r2 := goodIn_p wsL_law0_r2 [68, 62, 80] (by decide +kernel) (by decide +kernel)
set_option maxRecDepth 20000 in
theorem gwsL_law0_r3 : GoodIn lw_tbl wsL_law0_r3 := goodIn_p wsL_law0_r3 [160, 164, 168, 204] (by decide +kernel) (by decide +kernel)
set_option maxRecDepth 20000 in
theorem gwsL_law0_r4 : GoodIn lw_tbl wsL_law0_r4 := goodIn_p wsL_law0_r4 [207, 210, 230, 233, 236, 240, 243] (by decide +kernel) (by decide +kernel)
set_option maxRecDepth 20000 in
theorem gwsL_law0_r5 : GoodIn lw_tbl wsL_law0_r5 := goodIn_p wsL_law0_r5 [247, 251, 255, 259, 262, 265] (by decide +kernel) (by decide +kernel)
set_option maxRecDepth 20000 in
theorem gwsL_law0_r6 : GoodIn lw_tbl wsL_law0_r6 := goodIn_p wsL_law0_r6 [272, 279, 286, 291] (by decide +kernel) (by decide +kernel)
set_option maxRecDepth 20000 in
theorem gwsL_law0_r7 : GoodIn lw_tbl wsL_law0_r7 := goodIn_p wsL_law0_r7 [294, 298, 302, 306, 309, 313, 317] (by decide +kernel) (by decide +kernel)
set_option maxRecDepth 20000 in
theorem gwsL_law0_r8 : GoodIn lw_tbl wsL_law0_r8 := goodIn_p wsL_law0_r8 [321, 324, 328, 333, 337, 340] (by decide +kernel) (by decide +kernel)
set_option maxRecDepth 20000 in
theorem gwsL_law0_r9 : GoodIn lw_tbl wsL_law0_r9 := goodIn_p wsL_law0_r9 [348, 388, 395, 399, 403] (by decide +kernel) (by decide +kernel)
set_option maxRecDepth 20000 in
theorem gwsL_law0_r10 : GoodIn lw_tbl wsL_law0_r10 := goodIn_p wsL_law0_r10 [407, 411, 415, 352, 356, 361] (by decide +kernel) (by decide +kernel)
set_option maxRecDepth 20000 in
theorem gwsL_law0_r11 : GoodIn lw_tbl wsL_law0_r11 := goodIn_p wsL_law0_r11 [365, 369, 373, 377, 381, 385] (by decide +kernel) (by decide +kernel)
set_option maxRecDepth 20000 in
theorem gwsL_law0_r12 : GoodIn lw_tbl wsL_law0_r12 := goodIn_p wsL_law0_r12 [419, 423, 427, 431, 435] (by decide +kernel) (by decide +kernel)
theorem gwsX00 : ∀ w ∈ wsX00, w ∈ lw_tbl := by decide +kernel
theorem wsL_law_in0 : ∀ w ∈ wsL_law0, w ∈ lw_tbl := fun w h => by
  have g := goodIn_app gwsL_law0_r1 (goodIn_app gwsL_law0_r2 (goodIn_app gwsL_law0_r3 (goodIn_app gwsL_law0_r4 (goodIn_app gwsL_law0_r5 (goodIn_app gwsL_law0_r6 (goodIn_app gwsL_law0_r7 (goodIn_app gwsL_law0_r8 (goodIn_app gwsL_law0_r9 (goodIn_app gwsL_law0_r10 (goodIn_app gwsL_law0_r11 (gwsL_law0_r12)))))))))))
  rcases List.mem_append.mp h with h | h
  · rcases List.mem_append.mp h with h | h
    · exact (g w h).1
    · exact gwsX00 w h
  · exact absurd h List.not_mem_nil
theorem wsL_law_x0 : ∀ w ∈ (vx_atS RX0 33 "java/lang/IllegalStateException" ["java/lang/RuntimeException", "java/lang/Exception"]).filter goodWord, w ∈ lw_tbl := by decide +kernel
theorem wsL_law_x1 : ∀ w ∈ (vx_atS RX0 134 "java/lang/IllegalArgumentException" ["java/lang/RuntimeException", "java/lang/Exception"]).filter goodWord, w ∈ lw_tbl := by decide +kernel
theorem wsL_law_x2 : ∀ w ∈ (vx_atS RX0 71 "java/lang/IndexOutOfBoundsException" ["java/lang/RuntimeException", "java/lang/Exception"]).filter goodWord, w ∈ lw_tbl := by decide +kernel
theorem wsL_law_x3 : ∀ w ∈ zat99.filter goodWord, w ∈ lw_tbl := zat99_tbl
theorem wsL_law_in : ∀ w ∈ wsL_law, w ∈ lw_tbl := fun w h => (List.mem_append.mp h).elim (fun h => (List.mem_append.mp h).elim (fun h => (List.mem_append.mp h).elim (fun h => (List.mem_append.mp h).elim (fun h => wsL_law_in0 w h) (fun h => wsL_law_x0 w h)) (fun h => wsL_law_x1 w h)) (fun h => wsL_law_x2 w h)) (fun h => wsL_law_x3 w h)
theorem inlX0 : ∀ w ∈ wsX00, w ∈ wsL_law := fun _ h => List.mem_append_left _ (List.mem_append_left _ (List.mem_append_left _ (List.mem_append_left _ (List.mem_append_left _ (List.mem_append_right _ h)))))
theorem inX0 : ∀ w ∈ wsX00, w ∈ lw_tbl := fun w h => wsL_law_in w (inlX0 w h)
