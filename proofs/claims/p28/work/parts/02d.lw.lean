theorem dL_cell_0 : decode cL_cell 0 = .ok (.iload_n 1, 1) := by decide +kernel
theorem dL_cell_1 : decode cL_cell 1 = .ok (.aload_n 0, 1) := by decide +kernel
theorem dL_cell_2 : decode cL_cell 2 = .ok (.arraylength, 1) := by decide +kernel
theorem dL_cell_3 : decode cL_cell 3 = .ok (.if_icmp .ge 9, 3) := by decide +kernel
theorem dL_cell_6 : decode cL_cell 6 = .ok (.aload_n 0, 1) := by decide +kernel
theorem dL_cell_7 : decode cL_cell 7 = .ok (.iload_n 1, 1) := by decide +kernel
theorem dL_cell_8 : decode cL_cell 8 = .ok (.iaload, 1) := by decide +kernel
theorem dL_cell_9 : decode cL_cell 9 = .ok (.goto 18, 3) := by decide +kernel
theorem dL_cell_12 : decode cL_cell 12 = .ok (.sipush 7919, 3) := by decide +kernel
theorem dL_cell_15 : decode cL_cell 15 = .ok (.iload_n 1, 1) := by decide +kernel
theorem dL_cell_16 : decode cL_cell 16 = .ok (.sipush 263, 3) := by decide +kernel
theorem dL_cell_19 : decode cL_cell 19 = .ok (.iadd, 1) := by decide +kernel
theorem dL_cell_20 : decode cL_cell 20 = .ok (.imul, 1) := by decide +kernel
theorem dL_cell_21 : decode cL_cell 21 = .ok (.iload_n 1, 1) := by decide +kernel
theorem dL_cell_22 : decode cL_cell 22 = .ok (.sipush 1627, 3) := by decide +kernel
theorem dL_cell_25 : decode cL_cell 25 = .ok (.iadd, 1) := by decide +kernel
theorem dL_cell_26 : decode cL_cell 26 = .ok (.imul, 1) := by decide +kernel
theorem dL_cell_27 : decode cL_cell 27 = .ok (.ireturn, 1) := by decide +kernel
theorem dL_low_0 : decode cL_low 0 = .ok (.iload_n 0, 1) := by decide +kernel
theorem dL_low_1 : decode cL_low 1 = .ok (.ldc 7, 2) := by decide +kernel
theorem dL_low_3 : decode cL_low 3 = .ok (.iand, 1) := by decide +kernel
theorem dL_low_4 : decode cL_low 4 = .ok (.iload_n 1, 1) := by decide +kernel
theorem dL_low_5 : decode cL_low 5 = .ok (.irem, 1) := by decide +kernel
theorem dL_low_6 : decode cL_low 6 = .ok (.ireturn, 1) := by decide +kernel
set_option maxRecDepth 20000 in
theorem ggL_addNode_X0_addNode : GoodIn wsL_addNode wsX0_addNode := goodIn_ca (goodIn_r _ [7, 8, 9, 10, 11, 12, 13, 14, 15, 16] (by decide +kernel) (by decide +kernel)) (goodIn_sub (fun _ h => List.mem_cons_of_mem _ (List.mem_append_right _ h)) (by decide +kernel))
set_option maxRecDepth 20000 in
theorem gL_addNode_X0_addNode : GoodIn wsL_addNode (wsV RL 8 RX0 yX0_addNode wsX0_addNode) := goodIn_app (goodIn_of _ (by decide +kernel)) ggL_addNode_X0_addNode
theorem dL_addNode_0 : decode cL_addNode 0 = .ok (.aload_n 0, 1) := by decide +kernel
theorem dL_addNode_1 : decode cL_addNode 1 = .ok (.invokevirtual 8, 3) := by decide +kernel
theorem dL_addNode_4 : decode cL_addNode 4 = .ok (.ireturn, 1) := by decide +kernel
theorem dL_addNode_5 : decode cL_addNode 5 = .ok (.astore_n 1, 1) := by decide +kernel
theorem dL_addNode_6 : decode cL_addNode 6 = .ok (.ldc 16, 2) := by decide +kernel
theorem dL_addNode_8 : decode cL_addNode 8 = .ok (.ireturn, 1) := by decide +kernel
set_option maxRecDepth 20000 in
theorem ggL_join_X0_join : GoodIn wsL_join wsX0_join := goodIn_ca (goodIn_ca (goodIn_ca (goodIn_r _ [9, 10, 11, 12, 13, 14, 15, 16, 8, 17, 18, 19, 20, 21, 22, 23, 24, 25, 26, 27, 28, 29, 30, 31, 32, 33, 34, 35, 36, 37, 38, 39, 40, 41, 42, 43, 44, 45, 46, 47, 48, 49, 50, 51, 52, 53, 54, 55, 56, 57, 58, 59, 60, 61, 62, 63, 64, 65, 66, 67, 68, 69, 70, 71, 72, 73, 74, 75, 76, 77, 78, 79, 80, 81, 82, 83, 84, 85, 86, 87, 88] (by decide +kernel) (by decide +kernel)) (goodIn_sub (fun _ h => List.mem_cons_of_mem _ (List.mem_append_left _ (List.mem_append_left _ (List.mem_append_right _ h)))) (by decide +kernel))) (goodIn_sub (fun _ h => List.mem_cons_of_mem _ (List.mem_append_left _ (List.mem_append_right _ h))) (by decide +kernel))) (goodIn_sub (fun _ h => List.mem_cons_of_mem _ (List.mem_append_right _ h)) (by decide +kernel))
set_option maxRecDepth 20000 in
theorem gL_join_X0_join : GoodIn wsL_join (wsV RL 17 RX0 yX0_join wsX0_join) := goodIn_app (goodIn_of _ (by decide +kernel)) ggL_join_X0_join
theorem dL_join_0 : decode cL_join 0 = .ok (.aload_n 0, 1) := by decide +kernel
theorem dL_join_1 : decode cL_join 1 = .ok (.iload_n 1, 1) := by decide +kernel
theorem dL_join_2 : decode cL_join 2 = .ok (.iload_n 2, 1) := by decide +kernel
theorem dL_join_3 : decode cL_join 3 = .ok (.invokevirtual 17, 3) := by decide +kernel
theorem dL_join_6 : decode cL_join 6 = .ok (.ireturn, 1) := by decide +kernel
theorem dL_join_7 : decode cL_join 7 = .ok (.astore_n 3, 1) := by decide +kernel
theorem dL_join_8 : decode cL_join 8 = .ok (.ldc 16, 2) := by decide +kernel
theorem dL_join_10 : decode cL_join 10 = .ok (.ireturn, 1) := by decide +kernel
theorem dL_join_11 : decode cL_join 11 = .ok (.astore_n 3, 1) := by decide +kernel
theorem dL_join_12 : decode cL_join 12 = .ok (.ldc 16, 2) := by decide +kernel
theorem dL_join_14 : decode cL_join 14 = .ok (.ireturn, 1) := by decide +kernel
theorem dL_join_15 : decode cL_join 15 = .ok (.astore_n 3, 1) := by decide +kernel
theorem dL_join_16 : decode cL_join 16 = .ok (.ldc 16, 2) := by decide +kernel
theorem dL_join_18 : decode cL_join 18 = .ok (.ireturn, 1) := by decide +kernel
set_option maxRecDepth 20000 in
theorem ggL_part_X0_part : GoodIn wsL_part wsX0_part := goodIn_ca (goodIn_ca (goodIn_ca (goodIn_r _ [9, 10, 11, 12, 8, 13, 14, 15, 16, 17, 18, 19, 20, 21, 22, 23, 24, 25, 26, 27, 28, 29, 30, 31, 32, 33, 34, 35, 36, 37, 38, 39, 40, 41, 42, 43, 44, 45, 46, 47, 48, 49, 50, 51, 52, 53, 54, 55, 56, 57, 58, 59, 60, 61, 62, 63, 64, 65, 66, 67, 68, 69, 70, 71, 72, 73, 74, 75, 76, 77, 78, 79, 80, 81, 82, 83, 84, 85, 86, 87, 88, 89, 90, 91, 92] (by decide +kernel) (by decide +kernel)) (goodIn_sub (fun _ h => List.mem_cons_of_mem _ (List.mem_append_left _ (List.mem_append_left _ (List.mem_append_right _ h)))) (by decide +kernel))) (goodIn_sub (fun _ h => List.mem_cons_of_mem _ (List.mem_append_left _ (List.mem_append_right _ h))) (by decide +kernel))) (goodIn_sub (fun _ h => List.mem_cons_of_mem _ (List.mem_append_right _ h)) (by decide +kernel))
set_option maxRecDepth 20000 in
theorem gL_part_X0_part : GoodIn wsL_part (wsV RL 25 RX0 yX0_part wsX0_part) := goodIn_app (goodIn_of _ (by decide +kernel)) ggL_part_X0_part
theorem dL_part_0 : decode cL_part 0 = .ok (.aload_n 0, 1) := by decide +kernel
theorem dL_part_1 : decode cL_part 1 = .ok (.iload_n 1, 1) := by decide +kernel
theorem dL_part_2 : decode cL_part 2 = .ok (.iload_n 2, 1) := by decide +kernel
theorem dL_part_3 : decode cL_part 3 = .ok (.invokevirtual 25, 3) := by decide +kernel
theorem dL_part_6 : decode cL_part 6 = .ok (.ireturn, 1) := by decide +kernel
theorem dL_part_7 : decode cL_part 7 = .ok (.astore_n 3, 1) := by decide +kernel
theorem dL_part_8 : decode cL_part 8 = .ok (.ldc 16, 2) := by decide +kernel
theorem dL_part_10 : decode cL_part 10 = .ok (.ireturn, 1) := by decide +kernel
theorem dL_part_11 : decode cL_part 11 = .ok (.astore_n 3, 1) := by decide +kernel
theorem dL_part_12 : decode cL_part 12 = .ok (.ldc 16, 2) := by decide +kernel
theorem dL_part_14 : decode cL_part 14 = .ok (.ireturn, 1) := by decide +kernel
theorem dL_part_15 : decode cL_part 15 = .ok (.astore_n 3, 1) := by decide +kernel
theorem dL_part_16 : decode cL_part 16 = .ok (.ldc 16, 2) := by decide +kernel
theorem dL_part_18 : decode cL_part 18 = .ok (.ireturn, 1) := by decide +kernel
set_option maxRecDepth 20000 in
theorem ggL_isolate_X0_isolate : GoodIn wsL_isolate wsX0_isolate := goodIn_ca (goodIn_r _ [7, 8, 9, 10, 11, 12, 6, 13, 14, 15, 16, 17, 18, 19, 20, 21, 22, 23, 24, 25, 26, 27, 28, 29, 30, 31, 32, 33, 34, 35, 36, 37, 38, 39, 40, 41, 42, 43, 44, 45, 46, 47, 48, 49, 50, 51, 52, 53, 54, 55, 56, 57, 58, 59, 60, 61, 62, 63, 64, 65, 66, 67, 68, 69, 70, 71, 72, 73, 74, 75, 76, 77, 78] (by decide +kernel) (by decide +kernel)) (goodIn_sub (fun _ h => List.mem_cons_of_mem _ (List.mem_append_right _ h)) (by decide +kernel))
set_option maxRecDepth 20000 in
theorem gL_isolate_X0_isolate : GoodIn wsL_isolate (wsV RL 30 RX0 yX0_isolate wsX0_isolate) := goodIn_app (goodIn_of _ (by decide +kernel)) ggL_isolate_X0_isolate
theorem dL_isolate_0 : decode cL_isolate 0 = .ok (.aload_n 0, 1) := by decide +kernel
theorem dL_isolate_1 : decode cL_isolate 1 = .ok (.iload_n 1, 1) := by decide +kernel
theorem dL_isolate_2 : decode cL_isolate 2 = .ok (.invokevirtual 30, 3) := by decide +kernel
theorem dL_isolate_5 : decode cL_isolate 5 = .ok (.ireturn, 1) := by decide +kernel
theorem dL_isolate_6 : decode cL_isolate 6 = .ok (.astore_n 2, 1) := by decide +kernel
theorem dL_isolate_7 : decode cL_isolate 7 = .ok (.ldc 16, 2) := by decide +kernel
theorem dL_isolate_9 : decode cL_isolate 9 = .ok (.ireturn, 1) := by decide +kernel
set_option maxRecDepth 20000 in
theorem ggL_together_X0_together : GoodIn wsL_together wsX0_together := goodIn_ca (goodIn_ca (goodIn_r _ [8, 9, 10, 11, 12, 13, 14, 15, 16, 17, 18, 7, 19, 20, 21, 22, 23, 24, 25, 26, 27, 28, 29, 30, 31, 32, 33, 34, 35, 36, 37, 38, 39, 40, 41, 42, 43, 44, 45, 46] (by decide +kernel) (by decide +kernel)) (goodIn_sub (fun _ h => List.mem_cons_of_mem _ (List.mem_append_left _ (List.mem_append_right _ h))) (by decide +kernel))) (goodIn_sub (fun _ h => List.mem_cons_of_mem _ (List.mem_append_right _ h)) (by decide +kernel))
set_option maxRecDepth 20000 in
theorem gL_together_X0_together : GoodIn wsL_together (wsV RL 34 RX0 yX0_together wsX0_together) := goodIn_app (goodIn_of _ (by decide +kernel)) ggL_together_X0_together
theorem dL_together_0 : decode cL_together 0 = .ok (.aload_n 0, 1) := by decide +kernel
theorem dL_together_1 : decode cL_together 1 = .ok (.iload_n 1, 1) := by decide +kernel
theorem dL_together_2 : decode cL_together 2 = .ok (.iload_n 2, 1) := by decide +kernel
theorem dL_together_3 : decode cL_together 3 = .ok (.invokevirtual 34, 3) := by decide +kernel
theorem dL_together_6 : decode cL_together 6 = .ok (.ireturn, 1) := by decide +kernel
theorem dL_together_7 : decode cL_together 7 = .ok (.astore_n 3, 1) := by decide +kernel
theorem dL_together_8 : decode cL_together 8 = .ok (.ldc 16, 2) := by decide +kernel
theorem dL_together_10 : decode cL_together 10 = .ok (.ireturn, 1) := by decide +kernel
theorem dL_together_11 : decode cL_together 11 = .ok (.astore_n 3, 1) := by decide +kernel
theorem dL_together_12 : decode cL_together 12 = .ok (.iconst (-1), 1) := by decide +kernel
theorem dL_together_13 : decode cL_together 13 = .ok (.ireturn, 1) := by decide +kernel
set_option maxRecDepth 20000 in
theorem ggL_truss_X0_truss : GoodIn wsL_truss wsX0_truss := goodIn_ca (goodIn_ca (goodIn_r _ [8, 9, 10, 11, 12, 7, 13, 14, 15, 16, 17, 18, 19, 20, 21, 22, 23, 24, 25, 26, 27, 28, 29, 30, 31, 32, 33, 34, 35, 36, 37, 38, 39, 40, 41, 42, 43, 44, 45, 46, 47, 48, 49, 50, 51, 52, 53, 54, 55, 56, 57, 58, 59, 60] (by decide +kernel) (by decide +kernel)) (goodIn_sub (fun _ h => List.mem_cons_of_mem _ (List.mem_append_left _ (List.mem_append_right _ h))) (by decide +kernel))) (goodIn_sub (fun _ h => List.mem_cons_of_mem _ (List.mem_append_right _ h)) (by decide +kernel))
set_option maxRecDepth 20000 in
theorem gL_truss_X0_truss : GoodIn wsL_truss (wsV RL 37 RX0 yX0_truss wsX0_truss) := goodIn_app (goodIn_of _ (by decide +kernel)) ggL_truss_X0_truss
theorem dL_truss_0 : decode cL_truss 0 = .ok (.aload_n 0, 1) := by decide +kernel
theorem dL_truss_1 : decode cL_truss 1 = .ok (.iload_n 1, 1) := by decide +kernel
theorem dL_truss_2 : decode cL_truss 2 = .ok (.iload_n 2, 1) := by decide +kernel
theorem dL_truss_3 : decode cL_truss 3 = .ok (.invokevirtual 37, 3) := by decide +kernel
theorem dL_truss_6 : decode cL_truss 6 = .ok (.ireturn, 1) := by decide +kernel
theorem dL_truss_7 : decode cL_truss 7 = .ok (.astore_n 3, 1) := by decide +kernel
theorem dL_truss_8 : decode cL_truss 8 = .ok (.ldc 16, 2) := by decide +kernel
theorem dL_truss_10 : decode cL_truss 10 = .ok (.ireturn, 1) := by decide +kernel
theorem dL_truss_11 : decode cL_truss 11 = .ok (.astore_n 3, 1) := by decide +kernel
theorem dL_truss_12 : decode cL_truss 12 = .ok (.iconst (-1), 1) := by decide +kernel
theorem dL_truss_13 : decode cL_truss 13 = .ok (.ireturn, 1) := by decide +kernel
set_option maxRecDepth 20000 in
theorem ggL_act_L_low : GoodIn wsL_act wsL_low := goodIn_r _ [4, 5] (by decide +kernel) (by decide +kernel)
set_option maxRecDepth 20000 in
theorem gL_act_L_low : GoodIn wsL_act (va_wsS RL 40 yL_low wsL_low) := goodIn_app (goodIn_of _ (by decide +kernel)) ggL_act_L_low
set_option maxRecDepth 20000 in
theorem ggL_act_X0_nodes : GoodIn wsL_act wsX0_nodes := goodIn_r _ [10, 11, 127, 128, 129, 130, 131, 132] (by decide +kernel) (by decide +kernel)
set_option maxRecDepth 20000 in
theorem gL_act_X0_nodes : GoodIn wsL_act (wsV RL 45 RX0 yX0_nodes wsX0_nodes) := goodIn_app (goodIn_of _ (by decide +kernel)) ggL_act_X0_nodes
set_option maxRecDepth 20000 in
theorem ggL_act_L_addNode : GoodIn wsL_act wsL_addNode := goodIn_ca (goodIn_r _ [14, 15, 16, 17, 18, 19, 9, 20, 21, 22, 11, 127, 128, 129, 130, 131, 132] (by decide +kernel) (by decide +kernel)) (goodIn_sub (fun _ h => List.mem_cons_of_mem _ (List.mem_append_left _ (List.mem_append_left _ (List.mem_append_left _ (List.mem_append_right _ h))))) (by decide +kernel))
set_option maxRecDepth 20000 in
theorem gL_act_L_addNode : GoodIn wsL_act (va_wsS RL 48 yL_addNode wsL_addNode) := goodIn_app (goodIn_of _ (by decide +kernel)) ggL_act_L_addNode
set_option maxRecDepth 20000 in
theorem ggL_act_L_part : GoodIn wsL_act wsL_part := goodIn_ca (goodIn_ca (goodIn_ca (goodIn_r _ [25, 26, 27, 28, 16, 29, 30, 31, 9, 32, 33, 34, 35, 36, 37, 38, 39, 40, 41, 42, 43, 44, 11, 45, 46, 47, 48, 49, 50, 51, 52, 53, 54, 55, 56, 57, 58, 59, 60, 61, 62, 63, 64, 65, 66, 67, 68, 69, 70, 71, 72, 73, 74, 75, 76, 77, 78, 79, 80, 81, 82, 83, 84, 85, 86, 87, 88, 89, 90, 91, 92, 93, 94, 95, 96, 97, 98, 99, 100, 101, 102, 103, 104, 105, 106, 107, 108, 127, 128, 129, 130, 131, 132] (by decide +kernel) (by decide +kernel)) (goodIn_sub (fun _ h => List.mem_cons_of_mem _ (List.mem_append_left _ (List.mem_append_left _ (List.mem_append_right _ h)))) (by decide +kernel))) (goodIn_sub (fun _ h => List.mem_cons_of_mem _ (List.mem_append_left _ (List.mem_append_right _ h))) (by decide +kernel))) (goodIn_sub (fun _ h => List.mem_cons_of_mem _ (List.mem_append_right _ h)) (by decide +kernel))
set_option maxRecDepth 20000 in
theorem gL_act_L_part : GoodIn wsL_act (va_wsS RL 51 yL_part wsL_part) := goodIn_app (goodIn_of _ (by decide +kernel)) ggL_act_L_part
set_option maxRecDepth 20000 in
theorem ggL_act_L_isolate : GoodIn wsL_act wsL_isolate := goodIn_ca (goodIn_r _ [111, 26, 16, 112, 113, 114, 9, 115, 11, 51, 39, 40, 41, 42, 43, 44, 52, 53, 54, 55, 56, 57, 58, 59, 60, 61, 62, 63, 64, 65, 66, 67, 68, 69, 70, 71, 72, 73, 74, 75, 76, 77, 78, 79, 80, 81, 82, 83, 84, 85, 86, 87, 88, 89, 90, 91, 92, 93, 94, 95, 96, 97, 98, 99, 100, 101, 102, 103, 104, 105, 106, 107, 108, 127, 128, 129, 130, 131, 132] (by decide +kernel) (by decide +kernel)) (goodIn_sub (fun _ h => List.mem_cons_of_mem _ (List.mem_append_left _ (List.mem_append_right _ h))) (by decide +kernel))
set_option maxRecDepth 20000 in
theorem gL_act_L_isolate : GoodIn wsL_act (va_wsS RL 54 yL_isolate wsL_isolate) := goodIn_app (goodIn_of _ (by decide +kernel)) ggL_act_L_isolate
set_option maxRecDepth 20000 in
theorem ggL_act_L_join : GoodIn wsL_act wsL_join := goodIn_ca (goodIn_ca (goodIn_ca (goodIn_r _ [118, 26, 27, 15, 16, 119, 120, 121, 9, 122, 21, 22, 51, 67, 33, 34, 35, 36, 37, 38, 39, 40, 41, 42, 43, 44, 11, 52, 53, 54, 55, 56, 57, 75, 76, 77, 123, 124, 125, 126, 62, 63, 64, 65, 66, 71, 72, 73, 74, 78, 79, 80, 81, 82, 83, 84, 85, 86, 87, 88, 89, 90, 91, 92, 93, 94, 95, 96, 97, 98, 99, 100, 101, 102, 103, 68, 69, 70, 104, 105, 106, 107, 108, 127, 128, 129, 130, 131, 132] (by decide +kernel) (by decide +kernel)) (goodIn_sub (fun _ h => List.mem_cons_of_mem _ (List.mem_append_left _ (List.mem_append_left _ (List.mem_append_left _ (List.mem_append_right _ h))))) (by decide +kernel))) (goodIn_sub (fun _ h => List.mem_cons_of_mem _ (List.mem_append_left _ (List.mem_append_left _ (List.mem_append_right _ h)))) (by decide +kernel))) (goodIn_sub (fun _ h => List.mem_cons_of_mem _ (List.mem_append_left _ (List.mem_append_right _ h))) (by decide +kernel))
set_option maxRecDepth 20000 in
theorem gL_act_L_join : GoodIn wsL_act (va_wsS RL 57 yL_join wsL_join) := goodIn_app (goodIn_of _ (by decide +kernel)) ggL_act_L_join
theorem dL_act_0 : decode cL_act 0 = .ok (.iload_n 1, 1) := by decide +kernel
theorem dL_act_1 : decode cL_act 1 = .ok (.bipush 24, 2) := by decide +kernel
theorem dL_act_3 : decode cL_act 3 = .ok (.ishr, 1) := by decide +kernel
theorem dL_act_4 : decode cL_act 4 = .ok (.bipush 9, 2) := by decide +kernel
theorem dL_act_6 : decode cL_act 6 = .ok (.invokestatic 40, 3) := by decide +kernel
theorem dL_act_9 : decode cL_act 9 = .ok (.ifCond .ne 7, 3) := by decide +kernel
theorem dL_act_12 : decode cL_act 12 = .ok (.iconst 1, 1) := by decide +kernel
theorem dL_act_13 : decode cL_act 13 = .ok (.goto 4, 3) := by decide +kernel
theorem dL_act_16 : decode cL_act 16 = .ok (.iconst 0, 1) := by decide +kernel
theorem dL_act_17 : decode cL_act 17 = .ok (.istore_n 2, 1) := by decide +kernel
theorem dL_act_18 : decode cL_act 18 = .ok (.aload_n 0, 1) := by decide +kernel
theorem dL_act_19 : decode cL_act 19 = .ok (.invokevirtual 45, 3) := by decide +kernel
theorem dL_act_22 : decode cL_act 22 = .ok (.istore_n 3, 1) := by decide +kernel
theorem dL_act_23 : decode cL_act 23 = .ok (.iload_n 1, 1) := by decide +kernel
theorem dL_act_24 : decode cL_act 24 = .ok (.iconst 4, 1) := by decide +kernel
theorem dL_act_25 : decode cL_act 25 = .ok (.ishr, 1) := by decide +kernel
theorem dL_act_26 : decode cL_act 26 = .ok (.iload_n 3, 1) := by decide +kernel
theorem dL_act_27 : decode cL_act 27 = .ok (.iconst 1, 1) := by decide +kernel
theorem dL_act_28 : decode cL_act 28 = .ok (.iadd, 1) := by decide +kernel
theorem dL_act_29 : decode cL_act 29 = .ok (.invokestatic 40, 3) := by decide +kernel
theorem dL_act_32 : decode cL_act 32 = .ok (.iload_n 2, 1) := by decide +kernel
theorem dL_act_33 : decode cL_act 33 = .ok (.ifCond .eq 7, 3) := by decide +kernel
theorem dL_act_36 : decode cL_act 36 = .ok (.iconst 1, 1) := by decide +kernel
theorem dL_act_37 : decode cL_act 37 = .ok (.goto 4, 3) := by decide +kernel
theorem dL_act_40 : decode cL_act 40 = .ok (.iconst 0, 1) := by decide +kernel
theorem dL_act_41 : decode cL_act 41 = .ok (.isub, 1) := by decide +kernel
theorem dL_act_42 : decode cL_act 42 = .ok (.istore 4, 2) := by decide +kernel
theorem dL_act_44 : decode cL_act 44 = .ok (.iload_n 1, 1) := by decide +kernel
theorem dL_act_45 : decode cL_act 45 = .ok (.bipush 9, 2) := by decide +kernel
theorem dL_act_47 : decode cL_act 47 = .ok (.ishr, 1) := by decide +kernel
theorem dL_act_48 : decode cL_act 48 = .ok (.iload_n 3, 1) := by decide +kernel
theorem dL_act_49 : decode cL_act 49 = .ok (.iconst 1, 1) := by decide +kernel
theorem dL_act_50 : decode cL_act 50 = .ok (.iadd, 1) := by decide +kernel
theorem dL_act_51 : decode cL_act 51 = .ok (.invokestatic 40, 3) := by decide +kernel
theorem dL_act_54 : decode cL_act 54 = .ok (.istore 5, 2) := by decide +kernel
theorem dL_act_56 : decode cL_act 56 = .ok (.iload_n 1, 1) := by decide +kernel
theorem dL_act_57 : decode cL_act 57 = .ok (.bipush 11, 2) := by decide +kernel
theorem dL_act_59 : decode cL_act 59 = .ok (.invokestatic 40, 3) := by decide +kernel
theorem dL_act_62 : decode cL_act 62 = .ok (.tableswitch 69 0 3 #[30, 30, 35, 44], 30) := by decide +kernel
theorem dL_act_92 : decode cL_act 92 = .ok (.aload_n 0, 1) := by decide +kernel
theorem dL_act_93 : decode cL_act 93 = .ok (.invokestatic 48, 3) := by decide +kernel
theorem dL_act_96 : decode cL_act 96 = .ok (.ireturn, 1) := by decide +kernel
theorem dL_act_97 : decode cL_act 97 = .ok (.aload_n 0, 1) := by decide +kernel
theorem dL_act_98 : decode cL_act 98 = .ok (.iload 4, 2) := by decide +kernel
theorem dL_act_100 : decode cL_act 100 = .ok (.iload 5, 2) := by decide +kernel
theorem dL_act_102 : decode cL_act 102 = .ok (.invokestatic 51, 3) := by decide +kernel
theorem dL_act_105 : decode cL_act 105 = .ok (.ireturn, 1) := by decide +kernel
theorem dL_act_106 : decode cL_act 106 = .ok (.iload_n 1, 1) := by decide +kernel
theorem dL_act_107 : decode cL_act 107 = .ok (.bipush 14, 2) := by decide +kernel
theorem dL_act_109 : decode cL_act 109 = .ok (.ishr, 1) := by decide +kernel
theorem dL_act_110 : decode cL_act 110 = .ok (.iconst 4, 1) := by decide +kernel
theorem dL_act_111 : decode cL_act 111 = .ok (.invokestatic 40, 3) := by decide +kernel
theorem dL_act_114 : decode cL_act 114 = .ok (.ifCond .ne 12, 3) := by decide +kernel
theorem dL_act_117 : decode cL_act 117 = .ok (.aload_n 0, 1) := by decide +kernel
theorem dL_act_118 : decode cL_act 118 = .ok (.iload 4, 2) := by decide +kernel
theorem dL_act_120 : decode cL_act 120 = .ok (.invokestatic 54, 3) := by decide +kernel
theorem dL_act_123 : decode cL_act 123 = .ok (.goto 7, 3) := by decide +kernel
theorem dL_act_126 : decode cL_act 126 = .ok (.aload_n 0, 1) := by decide +kernel
theorem dL_act_127 : decode cL_act 127 = .ok (.invokestatic 48, 3) := by decide +kernel
theorem dL_act_130 : decode cL_act 130 = .ok (.ireturn, 1) := by decide +kernel
theorem dL_act_131 : decode cL_act 131 = .ok (.aload_n 0, 1) := by decide +kernel
theorem dL_act_132 : decode cL_act 132 = .ok (.iload 4, 2) := by decide +kernel
theorem dL_act_134 : decode cL_act 134 = .ok (.iload 5, 2) := by decide +kernel
theorem dL_act_136 : decode cL_act 136 = .ok (.invokestatic 57, 3) := by decide +kernel
theorem dL_act_139 : decode cL_act 139 = .ok (.ireturn, 1) := by decide +kernel
set_option maxRecDepth 20000 in
theorem ggL_areAlike_X0_nodes : GoodIn wsL_areAlike wsX0_nodes := goodIn_r _ [5, 6, 61, 62, 63, 64, 65, 66] (by decide +kernel) (by decide +kernel)
set_option maxRecDepth 20000 in
theorem gL_areAlike_X0_nodes : GoodIn wsL_areAlike (wsV RL 45 RX0 yX0_nodes wsX0_nodes) := goodIn_app (goodIn_of _ (by decide +kernel)) ggL_areAlike_X0_nodes
set_option maxRecDepth 20000 in
theorem ggL_areAlike_X0_edges : GoodIn wsL_areAlike wsX0_edges := goodIn_r _ [10, 11, 61, 62, 63, 64, 65, 66] (by decide +kernel) (by decide +kernel)
set_option maxRecDepth 20000 in
theorem gL_areAlike_X0_edges : GoodIn wsL_areAlike (wsV RL 59 RX0 yX0_edges wsX0_edges) := goodIn_app (goodIn_of _ (by decide +kernel)) ggL_areAlike_X0_edges
set_option maxRecDepth 20000 in
theorem ggL_areAlike_X0_changes : GoodIn wsL_areAlike wsX0_changes := goodIn_r _ [15, 16, 61, 62, 63, 64, 65, 66] (by decide +kernel) (by decide +kernel)
set_option maxRecDepth 20000 in
theorem gL_areAlike_X0_changes : GoodIn wsL_areAlike (wsV RL 62 RX0 yX0_changes wsX0_changes) := goodIn_app (goodIn_of _ (by decide +kernel)) ggL_areAlike_X0_changes
set_option maxRecDepth 20000 in
theorem ggL_areAlike_X0_degeneracy : GoodIn wsL_areAlike wsX0_degeneracy := goodIn_r _ [20, 6, 21, 22, 23, 24, 25, 61, 62, 63, 64, 65, 66] (by decide +kernel) (by decide +kernel)
set_option maxRecDepth 20000 in
theorem gL_areAlike_X0_degeneracy : GoodIn wsL_areAlike (wsV RL 65 RX0 yX0_degeneracy wsX0_degeneracy) := goodIn_app (goodIn_of _ (by decide +kernel)) ggL_areAlike_X0_degeneracy
set_option maxRecDepth 20000 in
theorem ggL_areAlike_X0_triangles : GoodIn wsL_areAlike wsX0_triangles := goodIn_r _ [29, 6, 30, 31, 32, 4, 33, 34, 35, 36, 37, 38, 39, 40, 41, 42, 43, 44, 45, 46, 61, 62, 63, 64, 65, 66] (by decide +kernel) (by decide +kernel)
set_option maxRecDepth 20000 in
theorem gL_areAlike_X0_triangles : GoodIn wsL_areAlike (wsV RL 68 RX0 yX0_triangles wsX0_triangles) := goodIn_app (goodIn_of _ (by decide +kernel)) ggL_areAlike_X0_triangles
set_option maxRecDepth 20000 in
theorem ggL_areAlike_X0_core : GoodIn wsL_areAlike wsX0_core := goodIn_ca (goodIn_r _ [50, 21, 51, 52, 53, 4, 54, 55, 56, 6, 61, 62, 63, 64, 65, 66] (by decide +kernel) (by decide +kernel)) (goodIn_sub (fun _ h => List.mem_cons_of_mem _ (List.mem_append_right _ h)) (by decide +kernel))
set_option maxRecDepth 20000 in
theorem gL_areAlike_X0_core : GoodIn wsL_areAlike (wsV RL 71 RX0 yX0_core wsX0_core) := goodIn_app (goodIn_of _ (by decide +kernel)) ggL_areAlike_X0_core
set_option maxRecDepth 20000 in
theorem ggL_areAlike_X0_degree : GoodIn wsL_areAlike wsX0_degree := goodIn_ca (goodIn_r _ [60, 30, 51, 52, 53, 4, 54, 55, 56, 6, 37, 38, 39, 40, 41, 42, 43, 44, 45, 46, 61, 62, 63, 64, 65, 66] (by decide +kernel) (by decide +kernel)) (goodIn_sub (fun _ h => List.mem_cons_of_mem _ (List.mem_append_right _ h)) (by decide +kernel))
set_option maxRecDepth 20000 in
theorem gL_areAlike_X0_degree : GoodIn wsL_areAlike (wsV RL 74 RX0 yX0_degree wsX0_degree) := goodIn_app (goodIn_of _ (by decide +kernel)) ggL_areAlike_X0_degree
theorem dL_areAlike_0 : decode cL_areAlike 0 = .ok (.aload_n 0, 1) := by decide +kernel
theorem dL_areAlike_1 : decode cL_areAlike 1 = .ok (.invokevirtual 45, 3) := by decide +kernel
theorem dL_areAlike_4 : decode cL_areAlike 4 = .ok (.aload_n 1, 1) := by decide +kernel
theorem dL_areAlike_5 : decode cL_areAlike 5 = .ok (.invokevirtual 45, 3) := by decide +kernel
theorem dL_areAlike_8 : decode cL_areAlike 8 = .ok (.if_icmp .ne 51, 3) := by decide +kernel
theorem dL_areAlike_11 : decode cL_areAlike 11 = .ok (.aload_n 0, 1) := by decide +kernel
theorem dL_areAlike_12 : decode cL_areAlike 12 = .ok (.invokevirtual 59, 3) := by decide +kernel
theorem dL_areAlike_15 : decode cL_areAlike 15 = .ok (.aload_n 1, 1) := by decide +kernel
theorem dL_areAlike_16 : decode cL_areAlike 16 = .ok (.invokevirtual 59, 3) := by decide +kernel
theorem dL_areAlike_19 : decode cL_areAlike 19 = .ok (.if_icmp .ne 40, 3) := by decide +kernel
theorem dL_areAlike_22 : decode cL_areAlike 22 = .ok (.aload_n 0, 1) := by decide +kernel
theorem dL_areAlike_23 : decode cL_areAlike 23 = .ok (.invokevirtual 62, 3) := by decide +kernel
theorem dL_areAlike_26 : decode cL_areAlike 26 = .ok (.aload_n 1, 1) := by decide +kernel
theorem dL_areAlike_27 : decode cL_areAlike 27 = .ok (.invokevirtual 62, 3) := by decide +kernel
theorem dL_areAlike_30 : decode cL_areAlike 30 = .ok (.if_icmp .ne 29, 3) := by decide +kernel
theorem dL_areAlike_33 : decode cL_areAlike 33 = .ok (.aload_n 0, 1) := by decide +kernel
theorem dL_areAlike_34 : decode cL_areAlike 34 = .ok (.invokevirtual 65, 3) := by decide +kernel
theorem dL_areAlike_37 : decode cL_areAlike 37 = .ok (.aload_n 1, 1) := by decide +kernel
theorem dL_areAlike_38 : decode cL_areAlike 38 = .ok (.invokevirtual 65, 3) := by decide +kernel
theorem dL_areAlike_41 : decode cL_areAlike 41 = .ok (.if_icmp .ne 18, 3) := by decide +kernel
theorem dL_areAlike_44 : decode cL_areAlike 44 = .ok (.aload_n 0, 1) := by decide +kernel
theorem dL_areAlike_45 : decode cL_areAlike 45 = .ok (.invokevirtual 68, 3) := by decide +kernel
theorem dL_areAlike_48 : decode cL_areAlike 48 = .ok (.aload_n 1, 1) := by decide +kernel
theorem dL_areAlike_49 : decode cL_areAlike 49 = .ok (.invokevirtual 68, 3) := by decide +kernel
theorem dL_areAlike_52 : decode cL_areAlike 52 = .ok (.if_icmp .ne 7, 3) := by decide +kernel
theorem dL_areAlike_55 : decode cL_areAlike 55 = .ok (.iconst 1, 1) := by decide +kernel
theorem dL_areAlike_56 : decode cL_areAlike 56 = .ok (.goto 4, 3) := by decide +kernel
theorem dL_areAlike_59 : decode cL_areAlike 59 = .ok (.iconst 0, 1) := by decide +kernel
theorem dL_areAlike_60 : decode cL_areAlike 60 = .ok (.istore_n 2, 1) := by decide +kernel
theorem dL_areAlike_61 : decode cL_areAlike 61 = .ok (.iconst 0, 1) := by decide +kernel
theorem dL_areAlike_62 : decode cL_areAlike 62 = .ok (.istore_n 3, 1) := by decide +kernel
theorem dL_areAlike_63 : decode cL_areAlike 63 = .ok (.iload_n 3, 1) := by decide +kernel
theorem dL_areAlike_64 : decode cL_areAlike 64 = .ok (.aload_n 0, 1) := by decide +kernel
theorem dL_areAlike_65 : decode cL_areAlike 65 = .ok (.invokevirtual 45, 3) := by decide +kernel
theorem dL_areAlike_68 : decode cL_areAlike 68 = .ok (.if_icmp .ge 45, 3) := by decide +kernel
theorem dL_areAlike_71 : decode cL_areAlike 71 = .ok (.iload_n 2, 1) := by decide +kernel
theorem dL_areAlike_72 : decode cL_areAlike 72 = .ok (.ifCond .eq 41, 3) := by decide +kernel
theorem dL_areAlike_75 : decode cL_areAlike 75 = .ok (.aload_n 0, 1) := by decide +kernel
theorem dL_areAlike_76 : decode cL_areAlike 76 = .ok (.iload_n 3, 1) := by decide +kernel
theorem dL_areAlike_77 : decode cL_areAlike 77 = .ok (.invokevirtual 71, 3) := by decide +kernel
theorem dL_areAlike_80 : decode cL_areAlike 80 = .ok (.aload_n 1, 1) := by decide +kernel
theorem dL_areAlike_81 : decode cL_areAlike 81 = .ok (.iload_n 3, 1) := by decide +kernel
theorem dL_areAlike_82 : decode cL_areAlike 82 = .ok (.invokevirtual 71, 3) := by decide +kernel
theorem dL_areAlike_85 : decode cL_areAlike 85 = .ok (.if_icmp .ne 20, 3) := by decide +kernel
theorem dL_areAlike_88 : decode cL_areAlike 88 = .ok (.aload_n 0, 1) := by decide +kernel
theorem dL_areAlike_89 : decode cL_areAlike 89 = .ok (.iload_n 3, 1) := by decide +kernel
theorem dL_areAlike_90 : decode cL_areAlike 90 = .ok (.invokevirtual 74, 3) := by decide +kernel
theorem dL_areAlike_93 : decode cL_areAlike 93 = .ok (.aload_n 1, 1) := by decide +kernel
theorem dL_areAlike_94 : decode cL_areAlike 94 = .ok (.iload_n 3, 1) := by decide +kernel
theorem dL_areAlike_95 : decode cL_areAlike 95 = .ok (.invokevirtual 74, 3) := by decide +kernel
theorem dL_areAlike_98 : decode cL_areAlike 98 = .ok (.if_icmp .ne 7, 3) := by decide +kernel
theorem dL_areAlike_101 : decode cL_areAlike 101 = .ok (.iconst 1, 1) := by decide +kernel
theorem dL_areAlike_102 : decode cL_areAlike 102 = .ok (.goto 4, 3) := by decide +kernel
theorem dL_areAlike_105 : decode cL_areAlike 105 = .ok (.iconst 0, 1) := by decide +kernel
theorem dL_areAlike_106 : decode cL_areAlike 106 = .ok (.istore_n 2, 1) := by decide +kernel
theorem dL_areAlike_107 : decode cL_areAlike 107 = .ok (.iinc 3 1, 3) := by decide +kernel
theorem dL_areAlike_110 : decode cL_areAlike 110 = .ok (.goto (-47), 3) := by decide +kernel
theorem dL_areAlike_113 : decode cL_areAlike 113 = .ok (.iload_n 2, 1) := by decide +kernel
theorem dL_areAlike_114 : decode cL_areAlike 114 = .ok (.ireturn, 1) := by decide +kernel
set_option maxRecDepth 20000 in
theorem ggL_isNodeSo_X0_core : GoodIn wsL_isNodeSo wsX0_core := goodIn_ca (goodIn_r _ [5, 6, 7, 8, 9, 4, 10, 11, 12, 13, 80, 81, 82, 83, 84, 85] (by decide +kernel) (by decide +kernel)) (goodIn_sub (fun _ h => List.mem_cons_of_mem _ (List.mem_append_left _ (List.mem_append_left _ (List.mem_append_right _ h)))) (by decide +kernel))
set_option maxRecDepth 20000 in
theorem gL_isNodeSo_X0_core : GoodIn wsL_isNodeSo (wsV RL 71 RX0 yX0_core wsX0_core) := goodIn_app (goodIn_of _ (by decide +kernel)) ggL_isNodeSo_X0_core
set_option maxRecDepth 20000 in
theorem ggL_isNodeSo_X0_degree : GoodIn wsL_isNodeSo wsX0_degree := goodIn_ca (goodIn_r _ [17, 18, 7, 8, 9, 4, 10, 11, 12, 13, 19, 20, 21, 22, 23, 24, 25, 26, 27, 28, 80, 81, 82, 83, 84, 85] (by decide +kernel) (by decide +kernel)) (goodIn_sub (fun _ h => List.mem_cons_of_mem _ (List.mem_append_left _ (List.mem_append_left _ (List.mem_append_right _ h)))) (by decide +kernel))
set_option maxRecDepth 20000 in
theorem gL_isNodeSo_X0_degree : GoodIn wsL_isNodeSo (wsV RL 74 RX0 yX0_degree wsX0_degree) := goodIn_app (goodIn_of _ (by decide +kernel)) ggL_isNodeSo_X0_degree
set_option maxRecDepth 20000 in
theorem ggL_isNodeSo_X0_neighbour : GoodIn wsL_isNodeSo wsX0_neighbour := goodIn_ca (goodIn_r _ [32, 11, 12, 13, 18, 7, 8, 9, 4, 10, 33, 34, 35, 36, 37, 38, 80, 81, 82, 83, 84, 85] (by decide +kernel) (by decide +kernel)) (goodIn_sub (fun _ h => List.mem_cons_of_mem _ (List.mem_append_left _ (List.mem_append_left _ (List.mem_append_right _ h)))) (by decide +kernel))
set_option maxRecDepth 20000 in
theorem gL_isNodeSo_X0_neighbour : GoodIn wsL_isNodeSo (wsV RL 77 RX0 yX0_neighbour wsX0_neighbour) := goodIn_app (goodIn_of _ (by decide +kernel)) ggL_isNodeSo_X0_neighbour
set_option maxRecDepth 20000 in
theorem ggL_isNodeSo_X0_areJoined : GoodIn wsL_isNodeSo wsX0_areJoined := goodIn_ca (goodIn_r _ [42, 18, 7, 8, 9, 4, 10, 11, 12, 13, 33, 34, 35, 36, 37, 38, 80, 81, 82, 83, 84, 85] (by decide +kernel) (by decide +kernel)) (goodIn_sub (fun _ h => List.mem_cons_of_mem _ (List.mem_append_left _ (List.mem_append_left _ (List.mem_append_right _ h)))) (by decide +kernel))
set_option maxRecDepth 20000 in
theorem gL_isNodeSo_X0_areJoined : GoodIn wsL_isNodeSo (wsV RL 80 RX0 yX0_areJoined wsX0_areJoined) := goodIn_app (goodIn_of _ (by decide +kernel)) ggL_isNodeSo_X0_areJoined
set_option maxRecDepth 20000 in
theorem ggL_isNodeSo_X0_community : GoodIn wsL_isNodeSo wsX0_community := goodIn_ca (goodIn_ca (goodIn_r _ [46, 7, 8, 9, 4, 10, 11, 12, 13, 47, 48, 49, 50, 51, 36, 37, 38, 52, 53, 54, 55, 6, 56, 57, 58, 59, 60, 61, 62, 18, 33, 34, 35, 19, 20, 21, 22, 23, 24, 25, 26, 27, 28, 80, 81, 82, 83, 84, 85] (by decide +kernel) (by decide +kernel)) (goodIn_sub (fun _ h => List.mem_cons_of_mem _ (List.mem_append_left _ (List.mem_append_left _ (List.mem_append_right _ h)))) (by decide +kernel))) (goodIn_sub (fun _ h => List.mem_cons_of_mem _ (List.mem_append_left _ (List.mem_append_right _ h))) (by decide +kernel))
set_option maxRecDepth 20000 in
theorem gL_isNodeSo_X0_community : GoodIn wsL_isNodeSo (wsV RL 84 RX0 yX0_community wsX0_community) := goodIn_app (goodIn_of _ (by decide +kernel)) ggL_isNodeSo_X0_community
set_option maxRecDepth 20000 in
theorem ggL_isNodeSo_L_together : GoodIn wsL_isNodeSo wsL_together := goodIn_ca (goodIn_ca (goodIn_r _ [66, 67, 68, 69, 70, 71, 72, 4, 73, 74, 75, 6, 76, 77, 78, 79, 7, 8, 9, 10, 11, 12, 13, 36, 37, 38, 52, 53, 54, 55, 56, 57, 58, 59, 60, 61, 62, 18, 33, 34, 35, 80, 81, 82, 83, 84, 85] (by decide +kernel) (by decide +kernel)) (goodIn_sub (fun _ h => List.mem_cons_of_mem _ (List.mem_append_right _ h)) (by decide +kernel))) (goodIn_sub (fun _ h => List.mem_cons_of_mem _ (List.mem_append_left _ (List.mem_append_left _ (List.mem_append_right _ h)))) (by decide +kernel))
set_option maxRecDepth 20000 in
theorem gL_isNodeSo_L_together : GoodIn wsL_isNodeSo (va_wsS RL 87 yL_together wsL_together) := goodIn_app (goodIn_of _ (by decide +kernel)) ggL_isNodeSo_L_together
theorem dL_isNodeSo_0 : decode cL_isNodeSo 0 = .ok (.aload_n 0, 1) := by decide +kernel
theorem dL_isNodeSo_1 : decode cL_isNodeSo 1 = .ok (.iload_n 1, 1) := by decide +kernel
theorem dL_isNodeSo_2 : decode cL_isNodeSo 2 = .ok (.invokevirtual 71, 3) := by decide +kernel
theorem dL_isNodeSo_5 : decode cL_isNodeSo 5 = .ok (.istore_n 2, 1) := by decide +kernel
theorem dL_isNodeSo_6 : decode cL_isNodeSo 6 = .ok (.iconst 0, 1) := by decide +kernel
theorem dL_isNodeSo_7 : decode cL_isNodeSo 7 = .ok (.istore_n 3, 1) := by decide +kernel
theorem dL_isNodeSo_8 : decode cL_isNodeSo 8 = .ok (.iconst 0, 1) := by decide +kernel
theorem dL_isNodeSo_9 : decode cL_isNodeSo 9 = .ok (.istore 4, 2) := by decide +kernel
theorem dL_isNodeSo_11 : decode cL_isNodeSo 11 = .ok (.iconst (-1), 1) := by decide +kernel
theorem dL_isNodeSo_12 : decode cL_isNodeSo 12 = .ok (.istore 5, 2) := by decide +kernel
theorem dL_isNodeSo_14 : decode cL_isNodeSo 14 = .ok (.iconst 0, 1) := by decide +kernel
theorem dL_isNodeSo_15 : decode cL_isNodeSo 15 = .ok (.istore 6, 2) := by decide +kernel
theorem dL_isNodeSo_17 : decode cL_isNodeSo 17 = .ok (.iload 6, 2) := by decide +kernel
theorem dL_isNodeSo_19 : decode cL_isNodeSo 19 = .ok (.aload_n 0, 1) := by decide +kernel
theorem dL_isNodeSo_20 : decode cL_isNodeSo 20 = .ok (.iload_n 1, 1) := by decide +kernel
theorem dL_isNodeSo_21 : decode cL_isNodeSo 21 = .ok (.invokevirtual 74, 3) := by decide +kernel
theorem dL_isNodeSo_24 : decode cL_isNodeSo 24 = .ok (.if_icmp .ge 95, 3) := by decide +kernel
theorem dL_isNodeSo_27 : decode cL_isNodeSo 27 = .ok (.aload_n 0, 1) := by decide +kernel
theorem dL_isNodeSo_28 : decode cL_isNodeSo 28 = .ok (.iload_n 1, 1) := by decide +kernel
theorem dL_isNodeSo_29 : decode cL_isNodeSo 29 = .ok (.iload 6, 2) := by decide +kernel
theorem dL_isNodeSo_31 : decode cL_isNodeSo 31 = .ok (.invokevirtual 77, 3) := by decide +kernel
theorem dL_isNodeSo_34 : decode cL_isNodeSo 34 = .ok (.istore 7, 2) := by decide +kernel
theorem dL_isNodeSo_36 : decode cL_isNodeSo 36 = .ok (.iload 7, 2) := by decide +kernel
theorem dL_isNodeSo_38 : decode cL_isNodeSo 38 = .ok (.iload 5, 2) := by decide +kernel
theorem dL_isNodeSo_40 : decode cL_isNodeSo 40 = .ok (.if_icmp .le 29, 3) := by decide +kernel
theorem dL_isNodeSo_43 : decode cL_isNodeSo 43 = .ok (.iload 7, 2) := by decide +kernel
theorem dL_isNodeSo_45 : decode cL_isNodeSo 45 = .ok (.iload_n 1, 1) := by decide +kernel
theorem dL_isNodeSo_46 : decode cL_isNodeSo 46 = .ok (.if_icmp .eq 23, 3) := by decide +kernel
theorem dL_isNodeSo_49 : decode cL_isNodeSo 49 = .ok (.aload_n 0, 1) := by decide +kernel
theorem dL_isNodeSo_50 : decode cL_isNodeSo 50 = .ok (.iload_n 1, 1) := by decide +kernel
theorem dL_isNodeSo_51 : decode cL_isNodeSo 51 = .ok (.iload 7, 2) := by decide +kernel
theorem dL_isNodeSo_53 : decode cL_isNodeSo 53 = .ok (.invokevirtual 80, 3) := by decide +kernel
theorem dL_isNodeSo_56 : decode cL_isNodeSo 56 = .ok (.ifCond .eq 13, 3) := by decide +kernel
theorem dL_isNodeSo_59 : decode cL_isNodeSo 59 = .ok (.aload_n 0, 1) := by decide +kernel
theorem dL_isNodeSo_60 : decode cL_isNodeSo 60 = .ok (.iload 7, 2) := by decide +kernel
theorem dL_isNodeSo_62 : decode cL_isNodeSo 62 = .ok (.iload_n 1, 1) := by decide +kernel
theorem dL_isNodeSo_63 : decode cL_isNodeSo 63 = .ok (.invokevirtual 80, 3) := by decide +kernel
theorem dL_isNodeSo_66 : decode cL_isNodeSo 66 = .ok (.ifCond .ne 5, 3) := by decide +kernel
theorem dL_isNodeSo_69 : decode cL_isNodeSo 69 = .ok (.iconst 0, 1) := by decide +kernel
theorem dL_isNodeSo_70 : decode cL_isNodeSo 70 = .ok (.ireturn, 1) := by decide +kernel
theorem dL_isNodeSo_71 : decode cL_isNodeSo 71 = .ok (.iload 7, 2) := by decide +kernel
theorem dL_isNodeSo_73 : decode cL_isNodeSo 73 = .ok (.istore 5, 2) := by decide +kernel
theorem dL_isNodeSo_75 : decode cL_isNodeSo 75 = .ok (.iload_n 3, 1) := by decide +kernel
theorem dL_isNodeSo_76 : decode cL_isNodeSo 76 = .ok (.aload_n 0, 1) := by decide +kernel
theorem dL_isNodeSo_77 : decode cL_isNodeSo 77 = .ok (.iload 7, 2) := by decide +kernel
theorem dL_isNodeSo_79 : decode cL_isNodeSo 79 = .ok (.invokevirtual 71, 3) := by decide +kernel
theorem dL_isNodeSo_82 : decode cL_isNodeSo 82 = .ok (.iload_n 2, 1) := by decide +kernel
theorem dL_isNodeSo_83 : decode cL_isNodeSo 83 = .ok (.if_icmp .lt 7, 3) := by decide +kernel
theorem dL_isNodeSo_86 : decode cL_isNodeSo 86 = .ok (.iconst 1, 1) := by decide +kernel
theorem dL_isNodeSo_87 : decode cL_isNodeSo 87 = .ok (.goto 4, 3) := by decide +kernel
theorem dL_isNodeSo_90 : decode cL_isNodeSo 90 = .ok (.iconst 0, 1) := by decide +kernel
theorem dL_isNodeSo_91 : decode cL_isNodeSo 91 = .ok (.iadd, 1) := by decide +kernel
theorem dL_isNodeSo_92 : decode cL_isNodeSo 92 = .ok (.istore_n 3, 1) := by decide +kernel
theorem dL_isNodeSo_93 : decode cL_isNodeSo 93 = .ok (.iload 4, 2) := by decide +kernel
theorem dL_isNodeSo_95 : decode cL_isNodeSo 95 = .ok (.aload_n 0, 1) := by decide +kernel
theorem dL_isNodeSo_96 : decode cL_isNodeSo 96 = .ok (.iload 7, 2) := by decide +kernel
theorem dL_isNodeSo_98 : decode cL_isNodeSo 98 = .ok (.invokevirtual 71, 3) := by decide +kernel
theorem dL_isNodeSo_101 : decode cL_isNodeSo 101 = .ok (.iload_n 2, 1) := by decide +kernel
theorem dL_isNodeSo_102 : decode cL_isNodeSo 102 = .ok (.if_icmp .le 7, 3) := by decide +kernel
theorem dL_isNodeSo_105 : decode cL_isNodeSo 105 = .ok (.iconst 1, 1) := by decide +kernel
theorem dL_isNodeSo_106 : decode cL_isNodeSo 106 = .ok (.goto 4, 3) := by decide +kernel
theorem dL_isNodeSo_109 : decode cL_isNodeSo 109 = .ok (.iconst 0, 1) := by decide +kernel
theorem dL_isNodeSo_110 : decode cL_isNodeSo 110 = .ok (.iadd, 1) := by decide +kernel
theorem dL_isNodeSo_111 : decode cL_isNodeSo 111 = .ok (.istore 4, 2) := by decide +kernel
theorem dL_isNodeSo_113 : decode cL_isNodeSo 113 = .ok (.iinc 6 1, 3) := by decide +kernel
theorem dL_isNodeSo_116 : decode cL_isNodeSo 116 = .ok (.goto (-99), 3) := by decide +kernel
theorem dL_isNodeSo_119 : decode cL_isNodeSo 119 = .ok (.iload_n 3, 1) := by decide +kernel
theorem dL_isNodeSo_120 : decode cL_isNodeSo 120 = .ok (.iload_n 2, 1) := by decide +kernel
theorem dL_isNodeSo_121 : decode cL_isNodeSo 121 = .ok (.if_icmp .lt 53, 3) := by decide +kernel
theorem dL_isNodeSo_124 : decode cL_isNodeSo 124 = .ok (.iload 4, 2) := by decide +kernel
theorem dL_isNodeSo_126 : decode cL_isNodeSo 126 = .ok (.iload_n 2, 1) := by decide +kernel
theorem dL_isNodeSo_127 : decode cL_isNodeSo 127 = .ok (.if_icmp .gt 47, 3) := by decide +kernel
theorem dL_isNodeSo_130 : decode cL_isNodeSo 130 = .ok (.aload_n 0, 1) := by decide +kernel
theorem dL_isNodeSo_131 : decode cL_isNodeSo 131 = .ok (.iload_n 1, 1) := by decide +kernel
theorem dL_isNodeSo_132 : decode cL_isNodeSo 132 = .ok (.iload_n 2, 1) := by decide +kernel
theorem dL_isNodeSo_133 : decode cL_isNodeSo 133 = .ok (.invokevirtual 84, 3) := by decide +kernel
theorem dL_isNodeSo_136 : decode cL_isNodeSo 136 = .ok (.iload_n 2, 1) := by decide +kernel
theorem dL_isNodeSo_137 : decode cL_isNodeSo 137 = .ok (.if_icmp .le 37, 3) := by decide +kernel
theorem dL_isNodeSo_140 : decode cL_isNodeSo 140 = .ok (.aload_n 0, 1) := by decide +kernel
theorem dL_isNodeSo_141 : decode cL_isNodeSo 141 = .ok (.iload_n 1, 1) := by decide +kernel
theorem dL_isNodeSo_142 : decode cL_isNodeSo 142 = .ok (.iload_n 2, 1) := by decide +kernel
theorem dL_isNodeSo_143 : decode cL_isNodeSo 143 = .ok (.iconst 1, 1) := by decide +kernel
theorem dL_isNodeSo_144 : decode cL_isNodeSo 144 = .ok (.iadd, 1) := by decide +kernel
theorem dL_isNodeSo_145 : decode cL_isNodeSo 145 = .ok (.invokevirtual 84, 3) := by decide +kernel
theorem dL_isNodeSo_148 : decode cL_isNodeSo 148 = .ok (.ifCond .ne 26, 3) := by decide +kernel
theorem dL_isNodeSo_151 : decode cL_isNodeSo 151 = .ok (.aload_n 0, 1) := by decide +kernel
theorem dL_isNodeSo_152 : decode cL_isNodeSo 152 = .ok (.iload_n 1, 1) := by decide +kernel
theorem dL_isNodeSo_153 : decode cL_isNodeSo 153 = .ok (.iload_n 1, 1) := by decide +kernel
theorem dL_isNodeSo_154 : decode cL_isNodeSo 154 = .ok (.invokestatic 87, 3) := by decide +kernel
theorem dL_isNodeSo_157 : decode cL_isNodeSo 157 = .ok (.iload_n 2, 1) := by decide +kernel
theorem dL_isNodeSo_158 : decode cL_isNodeSo 158 = .ok (.if_icmp .ne 16, 3) := by decide +kernel
theorem dL_isNodeSo_161 : decode cL_isNodeSo 161 = .ok (.aload_n 0, 1) := by decide +kernel
theorem dL_isNodeSo_162 : decode cL_isNodeSo 162 = .ok (.iload_n 1, 1) := by decide +kernel
theorem dL_isNodeSo_163 : decode cL_isNodeSo 163 = .ok (.iload_n 1, 1) := by decide +kernel
theorem dL_isNodeSo_164 : decode cL_isNodeSo 164 = .ok (.invokevirtual 80, 3) := by decide +kernel
theorem dL_isNodeSo_167 : decode cL_isNodeSo 167 = .ok (.ifCond .ne 7, 3) := by decide +kernel
theorem dL_isNodeSo_170 : decode cL_isNodeSo 170 = .ok (.iconst 1, 1) := by decide +kernel
theorem dL_isNodeSo_171 : decode cL_isNodeSo 171 = .ok (.goto 4, 3) := by decide +kernel
theorem dL_isNodeSo_174 : decode cL_isNodeSo 174 = .ok (.iconst 0, 1) := by decide +kernel
theorem dL_isNodeSo_175 : decode cL_isNodeSo 175 = .ok (.ireturn, 1) := by decide +kernel
set_option maxRecDepth 20000 in
theorem ggL_isPeeledSo_X0_nodes : GoodIn wsL_isPeeledSo wsX0_nodes := goodIn_r _ [5, 6, 83, 84, 85, 86, 87, 88] (by decide +kernel) (by decide +kernel)
set_option maxRecDepth 20000 in
theorem gL_isPeeledSo_X0_nodes : GoodIn wsL_isPeeledSo (wsV RL 45 RX0 yX0_nodes wsX0_nodes) := goodIn_app (goodIn_of _ (by decide +kernel)) ggL_isPeeledSo_X0_nodes
set_option maxRecDepth 20000 in
theorem ggL_isPeeledSo_X0_peeled : GoodIn wsL_isPeeledSo wsX0_peeled := goodIn_ca (goodIn_r _ [10, 11, 12, 6, 13, 14, 15, 4, 16, 17, 18, 19, 20, 21, 22, 23, 24, 25, 26, 27, 28, 29, 30, 31, 32, 33, 34, 35, 36, 37, 38, 39, 40, 83, 84, 85, 86, 87, 88] (by decide +kernel) (by decide +kernel)) (goodIn_sub (fun _ h => List.mem_cons_of_mem _ (List.mem_append_right _ h)) (by decide +kernel))
set_option maxRecDepth 20000 in
theorem gL_isPeeledSo_X0_peeled : GoodIn wsL_isPeeledSo (wsV RL 89 RX0 yX0_peeled wsX0_peeled) := goodIn_app (goodIn_of _ (by decide +kernel)) ggL_isPeeledSo_X0_peeled
set_option maxRecDepth 20000 in
theorem ggL_isPeeledSo_X0_areJoined : GoodIn wsL_isPeeledSo wsX0_areJoined := goodIn_ca (goodIn_r _ [44, 24, 45, 46, 47, 4, 48, 11, 12, 6, 25, 26, 27, 17, 18, 19, 83, 84, 85, 86, 87, 88] (by decide +kernel) (by decide +kernel)) (goodIn_sub (fun _ h => List.mem_cons_of_mem _ (List.mem_append_right _ h)) (by decide +kernel))
set_option maxRecDepth 20000 in
theorem gL_isPeeledSo_X0_areJoined : GoodIn wsL_isPeeledSo (wsV RL 80 RX0 yX0_areJoined wsX0_areJoined) := goodIn_app (goodIn_of _ (by decide +kernel)) ggL_isPeeledSo_X0_areJoined
set_option maxRecDepth 20000 in
theorem ggL_isPeeledSo_X0_isDense : GoodIn wsL_isPeeledSo wsX0_isDense := goodIn_ca (goodIn_r _ [52, 45, 46, 47, 4, 48, 11, 12, 6, 53, 54, 55, 56, 57, 13, 14, 15, 16, 17, 18, 19, 20, 21, 22, 23, 24, 25, 26, 27, 28, 29, 30, 31, 32, 33, 34, 35, 36, 37, 38, 39, 40, 58, 59, 60, 61, 83, 84, 85, 86, 87, 88] (by decide +kernel) (by decide +kernel)) (goodIn_sub (fun _ h => List.mem_cons_of_mem _ (List.mem_append_right _ h)) (by decide +kernel))
set_option maxRecDepth 20000 in
theorem gL_isPeeledSo_X0_isDense : GoodIn wsL_isPeeledSo (wsV RL 92 RX0 yX0_isDense wsX0_isDense) := goodIn_app (goodIn_of _ (by decide +kernel)) ggL_isPeeledSo_X0_isDense
set_option maxRecDepth 20000 in
theorem ggL_isPeeledSo_X0_degeneracy : GoodIn wsL_isPeeledSo wsX0_degeneracy := goodIn_r _ [65, 6, 66, 67, 68, 69, 70, 83, 84, 85, 86, 87, 88] (by decide +kernel) (by decide +kernel)
set_option maxRecDepth 20000 in
theorem gL_isPeeledSo_X0_degeneracy : GoodIn wsL_isPeeledSo (wsV RL 65 RX0 yX0_degeneracy wsX0_degeneracy) := goodIn_app (goodIn_of _ (by decide +kernel)) ggL_isPeeledSo_X0_degeneracy
set_option maxRecDepth 20000 in
theorem ggL_isPeeledSo_X0_edges : GoodIn wsL_isPeeledSo wsX0_edges := goodIn_r _ [74, 57, 83, 84, 85, 86, 87, 88] (by decide +kernel) (by decide +kernel)
set_option maxRecDepth 20000 in
theorem gL_isPeeledSo_X0_edges : GoodIn wsL_isPeeledSo (wsV RL 59 RX0 yX0_edges wsX0_edges) := goodIn_app (goodIn_of _ (by decide +kernel)) ggL_isPeeledSo_X0_edges
set_option maxRecDepth 20000 in
theorem ggL_isPeeledSo_X0_denseSize : GoodIn wsL_isPeeledSo wsX0_denseSize := goodIn_r _ [78, 53, 54, 55, 4, 56, 57, 6, 13, 14, 15, 16, 17, 18, 19, 20, 21, 22, 23, 24, 25, 26, 27, 28, 29, 30, 31, 32, 33, 34, 35, 36, 37, 38, 39, 40, 58, 59, 60, 61, 83, 84, 85, 86, 87, 88] (by decide +kernel) (by decide +kernel)
set_option maxRecDepth 20000 in
theorem gL_isPeeledSo_X0_denseSize : GoodIn wsL_isPeeledSo (wsV RL 96 RX0 yX0_denseSize wsX0_denseSize) := goodIn_app (goodIn_of _ (by decide +kernel)) ggL_isPeeledSo_X0_denseSize
set_option maxRecDepth 20000 in
theorem ggL_isPeeledSo_X0_density : GoodIn wsL_isPeeledSo wsX0_density := goodIn_r _ [82, 53, 54, 55, 4, 56, 57, 6, 13, 14, 15, 16, 17, 18, 19, 20, 21, 22, 23, 24, 25, 26, 27, 28, 29, 30, 31, 32, 33, 34, 35, 36, 37, 38, 39, 40, 58, 59, 60, 61, 83, 84, 85, 86, 87, 88] (by decide +kernel) (by decide +kernel)
set_option maxRecDepth 20000 in
theorem gL_isPeeledSo_X0_density : GoodIn wsL_isPeeledSo (wsV RL 99 RX0 yX0_density wsX0_density) := goodIn_app (goodIn_of _ (by decide +kernel)) ggL_isPeeledSo_X0_density
theorem dL_isPeeledSo_0 : decode cL_isPeeledSo 0 = .ok (.aload_n 0, 1) := by decide +kernel
theorem dL_isPeeledSo_1 : decode cL_isPeeledSo 1 = .ok (.invokevirtual 45, 3) := by decide +kernel
theorem dL_isPeeledSo_4 : decode cL_isPeeledSo 4 = .ok (.istore_n 1, 1) := by decide +kernel
theorem dL_isPeeledSo_5 : decode cL_isPeeledSo 5 = .ok (.iconst 1, 1) := by decide +kernel
theorem dL_isPeeledSo_6 : decode cL_isPeeledSo 6 = .ok (.iload_n 1, 1) := by decide +kernel
theorem dL_isPeeledSo_7 : decode cL_isPeeledSo 7 = .ok (.ishl, 1) := by decide +kernel
theorem dL_isPeeledSo_8 : decode cL_isPeeledSo 8 = .ok (.iconst 1, 1) := by decide +kernel
theorem dL_isPeeledSo_9 : decode cL_isPeeledSo 9 = .ok (.isub, 1) := by decide +kernel
theorem dL_isPeeledSo_10 : decode cL_isPeeledSo 10 = .ok (.istore_n 2, 1) := by decide +kernel
theorem dL_isPeeledSo_11 : decode cL_isPeeledSo 11 = .ok (.iconst 0, 1) := by decide +kernel
theorem dL_isPeeledSo_12 : decode cL_isPeeledSo 12 = .ok (.istore_n 3, 1) := by decide +kernel
theorem dL_isPeeledSo_13 : decode cL_isPeeledSo 13 = .ok (.iconst 0, 1) := by decide +kernel
theorem dL_isPeeledSo_14 : decode cL_isPeeledSo 14 = .ok (.istore 4, 2) := by decide +kernel
theorem dL_isPeeledSo_16 : decode cL_isPeeledSo 16 = .ok (.iconst 0, 1) := by decide +kernel
theorem dL_isPeeledSo_17 : decode cL_isPeeledSo 17 = .ok (.istore 5, 2) := by decide +kernel
theorem dL_isPeeledSo_19 : decode cL_isPeeledSo 19 = .ok (.iload 5, 2) := by decide +kernel
theorem dL_isPeeledSo_21 : decode cL_isPeeledSo 21 = .ok (.iload_n 1, 1) := by decide +kernel
theorem dL_isPeeledSo_22 : decode cL_isPeeledSo 22 = .ok (.if_icmp .ge 104, 3) := by decide +kernel
theorem dL_isPeeledSo_25 : decode cL_isPeeledSo 25 = .ok (.aload_n 0, 1) := by decide +kernel
theorem dL_isPeeledSo_26 : decode cL_isPeeledSo 26 = .ok (.iload 5, 2) := by decide +kernel
theorem dL_isPeeledSo_28 : decode cL_isPeeledSo 28 = .ok (.invokevirtual 89, 3) := by decide +kernel
theorem dL_isPeeledSo_31 : decode cL_isPeeledSo 31 = .ok (.istore 6, 2) := by decide +kernel
theorem dL_isPeeledSo_33 : decode cL_isPeeledSo 33 = .ok (.iload_n 2, 1) := by decide +kernel
theorem dL_isPeeledSo_34 : decode cL_isPeeledSo 34 = .ok (.iload 6, 2) := by decide +kernel
theorem dL_isPeeledSo_36 : decode cL_isPeeledSo 36 = .ok (.ishr, 1) := by decide +kernel
theorem dL_isPeeledSo_37 : decode cL_isPeeledSo 37 = .ok (.iconst 1, 1) := by decide +kernel
theorem dL_isPeeledSo_38 : decode cL_isPeeledSo 38 = .ok (.iand, 1) := by decide +kernel
theorem dL_isPeeledSo_39 : decode cL_isPeeledSo 39 = .ok (.ifCond .ne 5, 3) := by decide +kernel
theorem dL_isPeeledSo_42 : decode cL_isPeeledSo 42 = .ok (.iconst 0, 1) := by decide +kernel
theorem dL_isPeeledSo_43 : decode cL_isPeeledSo 43 = .ok (.ireturn, 1) := by decide +kernel
theorem dL_isPeeledSo_44 : decode cL_isPeeledSo 44 = .ok (.iload_n 2, 1) := by decide +kernel
theorem dL_isPeeledSo_45 : decode cL_isPeeledSo 45 = .ok (.iconst 1, 1) := by decide +kernel
theorem dL_isPeeledSo_46 : decode cL_isPeeledSo 46 = .ok (.iload 6, 2) := by decide +kernel
theorem dL_isPeeledSo_48 : decode cL_isPeeledSo 48 = .ok (.ishl, 1) := by decide +kernel
theorem dL_isPeeledSo_49 : decode cL_isPeeledSo 49 = .ok (.ixor, 1) := by decide +kernel
theorem dL_isPeeledSo_50 : decode cL_isPeeledSo 50 = .ok (.istore_n 2, 1) := by decide +kernel
theorem dL_isPeeledSo_51 : decode cL_isPeeledSo 51 = .ok (.iconst 0, 1) := by decide +kernel
theorem dL_isPeeledSo_52 : decode cL_isPeeledSo 52 = .ok (.istore 7, 2) := by decide +kernel
theorem dL_isPeeledSo_54 : decode cL_isPeeledSo 54 = .ok (.iconst 0, 1) := by decide +kernel
theorem dL_isPeeledSo_55 : decode cL_isPeeledSo 55 = .ok (.istore 8, 2) := by decide +kernel
theorem dL_isPeeledSo_57 : decode cL_isPeeledSo 57 = .ok (.iload 8, 2) := by decide +kernel
theorem dL_isPeeledSo_59 : decode cL_isPeeledSo 59 = .ok (.iload_n 1, 1) := by decide +kernel
theorem dL_isPeeledSo_60 : decode cL_isPeeledSo 60 = .ok (.if_icmp .ge 40, 3) := by decide +kernel
theorem dL_isPeeledSo_63 : decode cL_isPeeledSo 63 = .ok (.iload 7, 2) := by decide +kernel
theorem dL_isPeeledSo_65 : decode cL_isPeeledSo 65 = .ok (.iload_n 2, 1) := by decide +kernel
theorem dL_isPeeledSo_66 : decode cL_isPeeledSo 66 = .ok (.iload 8, 2) := by decide +kernel
theorem dL_isPeeledSo_68 : decode cL_isPeeledSo 68 = .ok (.ishr, 1) := by decide +kernel
theorem dL_isPeeledSo_69 : decode cL_isPeeledSo 69 = .ok (.iconst 1, 1) := by decide +kernel
theorem dL_isPeeledSo_70 : decode cL_isPeeledSo 70 = .ok (.iand, 1) := by decide +kernel
theorem dL_isPeeledSo_71 : decode cL_isPeeledSo 71 = .ok (.iconst 1, 1) := by decide +kernel
theorem dL_isPeeledSo_72 : decode cL_isPeeledSo 72 = .ok (.if_icmp .ne 18, 3) := by decide +kernel
theorem dL_isPeeledSo_75 : decode cL_isPeeledSo 75 = .ok (.aload_n 0, 1) := by decide +kernel
theorem dL_isPeeledSo_76 : decode cL_isPeeledSo 76 = .ok (.iload 6, 2) := by decide +kernel
theorem dL_isPeeledSo_78 : decode cL_isPeeledSo 78 = .ok (.iload 8, 2) := by decide +kernel
theorem dL_isPeeledSo_80 : decode cL_isPeeledSo 80 = .ok (.invokevirtual 80, 3) := by decide +kernel
theorem dL_isPeeledSo_83 : decode cL_isPeeledSo 83 = .ok (.ifCond .eq 7, 3) := by decide +kernel
theorem dL_isPeeledSo_86 : decode cL_isPeeledSo 86 = .ok (.iconst 1, 1) := by decide +kernel
theorem dL_isPeeledSo_87 : decode cL_isPeeledSo 87 = .ok (.goto 4, 3) := by decide +kernel
theorem dL_isPeeledSo_90 : decode cL_isPeeledSo 90 = .ok (.iconst 0, 1) := by decide +kernel
theorem dL_isPeeledSo_91 : decode cL_isPeeledSo 91 = .ok (.iadd, 1) := by decide +kernel
theorem dL_isPeeledSo_92 : decode cL_isPeeledSo 92 = .ok (.istore 7, 2) := by decide +kernel
theorem dL_isPeeledSo_94 : decode cL_isPeeledSo 94 = .ok (.iinc 8 1, 3) := by decide +kernel
theorem dL_isPeeledSo_97 : decode cL_isPeeledSo 97 = .ok (.goto (-40), 3) := by decide +kernel
theorem dL_isPeeledSo_100 : decode cL_isPeeledSo 100 = .ok (.iload 7, 2) := by decide +kernel
theorem dL_isPeeledSo_102 : decode cL_isPeeledSo 102 = .ok (.iload_n 3, 1) := by decide +kernel
theorem dL_isPeeledSo_103 : decode cL_isPeeledSo 103 = .ok (.if_icmp .le 8, 3) := by decide +kernel
theorem dL_isPeeledSo_106 : decode cL_isPeeledSo 106 = .ok (.iload 7, 2) := by decide +kernel
theorem dL_isPeeledSo_108 : decode cL_isPeeledSo 108 = .ok (.goto 4, 3) := by decide +kernel
theorem dL_isPeeledSo_111 : decode cL_isPeeledSo 111 = .ok (.iload_n 3, 1) := by decide +kernel
theorem dL_isPeeledSo_112 : decode cL_isPeeledSo 112 = .ok (.istore_n 3, 1) := by decide +kernel
theorem dL_isPeeledSo_113 : decode cL_isPeeledSo 113 = .ok (.iload 4, 2) := by decide +kernel
theorem dL_isPeeledSo_115 : decode cL_isPeeledSo 115 = .ok (.iload 7, 2) := by decide +kernel
theorem dL_isPeeledSo_117 : decode cL_isPeeledSo 117 = .ok (.iadd, 1) := by decide +kernel
theorem dL_isPeeledSo_118 : decode cL_isPeeledSo 118 = .ok (.istore 4, 2) := by decide +kernel
theorem dL_isPeeledSo_120 : decode cL_isPeeledSo 120 = .ok (.iinc 5 1, 3) := by decide +kernel
theorem dL_isPeeledSo_123 : decode cL_isPeeledSo 123 = .ok (.goto (-104), 3) := by decide +kernel
theorem dL_isPeeledSo_126 : decode cL_isPeeledSo 126 = .ok (.iconst 0, 1) := by decide +kernel
theorem dL_isPeeledSo_127 : decode cL_isPeeledSo 127 = .ok (.istore 5, 2) := by decide +kernel
theorem dL_isPeeledSo_129 : decode cL_isPeeledSo 129 = .ok (.iconst 0, 1) := by decide +kernel
theorem dL_isPeeledSo_130 : decode cL_isPeeledSo 130 = .ok (.istore 6, 2) := by decide +kernel
theorem dL_isPeeledSo_132 : decode cL_isPeeledSo 132 = .ok (.iconst 0, 1) := by decide +kernel
theorem dL_isPeeledSo_133 : decode cL_isPeeledSo 133 = .ok (.istore 7, 2) := by decide +kernel
theorem dL_isPeeledSo_135 : decode cL_isPeeledSo 135 = .ok (.iload 7, 2) := by decide +kernel
theorem dL_isPeeledSo_137 : decode cL_isPeeledSo 137 = .ok (.iload_n 1, 1) := by decide +kernel
theorem dL_isPeeledSo_138 : decode cL_isPeeledSo 138 = .ok (.if_icmp .ge 83, 3) := by decide +kernel
theorem dL_isPeeledSo_141 : decode cL_isPeeledSo 141 = .ok (.iload 5, 2) := by decide +kernel
theorem dL_isPeeledSo_143 : decode cL_isPeeledSo 143 = .ok (.aload_n 0, 1) := by decide +kernel
theorem dL_isPeeledSo_144 : decode cL_isPeeledSo 144 = .ok (.iload 7, 2) := by decide +kernel
theorem dL_isPeeledSo_146 : decode cL_isPeeledSo 146 = .ok (.invokevirtual 92, 3) := by decide +kernel
theorem dL_isPeeledSo_149 : decode cL_isPeeledSo 149 = .ok (.ifCond .eq 7, 3) := by decide +kernel
theorem dL_isPeeledSo_152 : decode cL_isPeeledSo 152 = .ok (.iconst 1, 1) := by decide +kernel
theorem dL_isPeeledSo_153 : decode cL_isPeeledSo 153 = .ok (.goto 4, 3) := by decide +kernel
theorem dL_isPeeledSo_156 : decode cL_isPeeledSo 156 = .ok (.iconst 0, 1) := by decide +kernel
theorem dL_isPeeledSo_157 : decode cL_isPeeledSo 157 = .ok (.iadd, 1) := by decide +kernel
theorem dL_isPeeledSo_158 : decode cL_isPeeledSo 158 = .ok (.istore 5, 2) := by decide +kernel
theorem dL_isPeeledSo_160 : decode cL_isPeeledSo 160 = .ok (.iconst 0, 1) := by decide +kernel
theorem dL_isPeeledSo_161 : decode cL_isPeeledSo 161 = .ok (.istore 8, 2) := by decide +kernel
theorem dL_isPeeledSo_163 : decode cL_isPeeledSo 163 = .ok (.iload 8, 2) := by decide +kernel
theorem dL_isPeeledSo_165 : decode cL_isPeeledSo 165 = .ok (.iload 7, 2) := by decide +kernel
theorem dL_isPeeledSo_167 : decode cL_isPeeledSo 167 = .ok (.if_icmp .ge 48, 3) := by decide +kernel
theorem dL_isPeeledSo_170 : decode cL_isPeeledSo 170 = .ok (.iload 6, 2) := by decide +kernel
theorem dL_isPeeledSo_172 : decode cL_isPeeledSo 172 = .ok (.aload_n 0, 1) := by decide +kernel
theorem dL_isPeeledSo_173 : decode cL_isPeeledSo 173 = .ok (.iload 7, 2) := by decide +kernel
theorem dL_isPeeledSo_175 : decode cL_isPeeledSo 175 = .ok (.invokevirtual 92, 3) := by decide +kernel
theorem dL_isPeeledSo_178 : decode cL_isPeeledSo 178 = .ok (.ifCond .eq 27, 3) := by decide +kernel
theorem dL_isPeeledSo_181 : decode cL_isPeeledSo 181 = .ok (.aload_n 0, 1) := by decide +kernel
theorem dL_isPeeledSo_182 : decode cL_isPeeledSo 182 = .ok (.iload 8, 2) := by decide +kernel
theorem dL_isPeeledSo_184 : decode cL_isPeeledSo 184 = .ok (.invokevirtual 92, 3) := by decide +kernel
theorem dL_isPeeledSo_187 : decode cL_isPeeledSo 187 = .ok (.ifCond .eq 18, 3) := by decide +kernel
theorem dL_isPeeledSo_190 : decode cL_isPeeledSo 190 = .ok (.aload_n 0, 1) := by decide +kernel
theorem dL_isPeeledSo_191 : decode cL_isPeeledSo 191 = .ok (.iload 7, 2) := by decide +kernel
theorem dL_isPeeledSo_193 : decode cL_isPeeledSo 193 = .ok (.iload 8, 2) := by decide +kernel
theorem dL_isPeeledSo_195 : decode cL_isPeeledSo 195 = .ok (.invokevirtual 80, 3) := by decide +kernel
theorem dL_isPeeledSo_198 : decode cL_isPeeledSo 198 = .ok (.ifCond .eq 7, 3) := by decide +kernel
theorem dL_isPeeledSo_201 : decode cL_isPeeledSo 201 = .ok (.iconst 1, 1) := by decide +kernel
theorem dL_isPeeledSo_202 : decode cL_isPeeledSo 202 = .ok (.goto 4, 3) := by decide +kernel
theorem dL_isPeeledSo_205 : decode cL_isPeeledSo 205 = .ok (.iconst 0, 1) := by decide +kernel
theorem dL_isPeeledSo_206 : decode cL_isPeeledSo 206 = .ok (.iadd, 1) := by decide +kernel
theorem dL_isPeeledSo_207 : decode cL_isPeeledSo 207 = .ok (.istore 6, 2) := by decide +kernel
theorem dL_isPeeledSo_209 : decode cL_isPeeledSo 209 = .ok (.iinc 8 1, 3) := by decide +kernel
theorem dL_isPeeledSo_212 : decode cL_isPeeledSo 212 = .ok (.goto (-49), 3) := by decide +kernel
theorem dL_isPeeledSo_215 : decode cL_isPeeledSo 215 = .ok (.iinc 7 1, 3) := by decide +kernel
theorem dL_isPeeledSo_218 : decode cL_isPeeledSo 218 = .ok (.goto (-83), 3) := by decide +kernel
theorem dL_isPeeledSo_221 : decode cL_isPeeledSo 221 = .ok (.iload_n 3, 1) := by decide +kernel
theorem dL_isPeeledSo_222 : decode cL_isPeeledSo 222 = .ok (.aload_n 0, 1) := by decide +kernel
theorem dL_isPeeledSo_223 : decode cL_isPeeledSo 223 = .ok (.invokevirtual 65, 3) := by decide +kernel
theorem dL_isPeeledSo_226 : decode cL_isPeeledSo 226 = .ok (.if_icmp .ne 47, 3) := by decide +kernel
theorem dL_isPeeledSo_229 : decode cL_isPeeledSo 229 = .ok (.iload 4, 2) := by decide +kernel
theorem dL_isPeeledSo_231 : decode cL_isPeeledSo 231 = .ok (.aload_n 0, 1) := by decide +kernel
theorem dL_isPeeledSo_232 : decode cL_isPeeledSo 232 = .ok (.invokevirtual 59, 3) := by decide +kernel
theorem dL_isPeeledSo_235 : decode cL_isPeeledSo 235 = .ok (.if_icmp .ne 38, 3) := by decide +kernel
theorem dL_isPeeledSo_238 : decode cL_isPeeledSo 238 = .ok (.iload 5, 2) := by decide +kernel
theorem dL_isPeeledSo_240 : decode cL_isPeeledSo 240 = .ok (.aload_n 0, 1) := by decide +kernel
theorem dL_isPeeledSo_241 : decode cL_isPeeledSo 241 = .ok (.invokevirtual 96, 3) := by decide +kernel
theorem dL_isPeeledSo_244 : decode cL_isPeeledSo 244 = .ok (.if_icmp .ne 29, 3) := by decide +kernel
theorem dL_isPeeledSo_247 : decode cL_isPeeledSo 247 = .ok (.iload_n 1, 1) := by decide +kernel
theorem dL_isPeeledSo_248 : decode cL_isPeeledSo 248 = .ok (.ifCond .ne 7, 3) := by decide +kernel
theorem dL_isPeeledSo_251 : decode cL_isPeeledSo 251 = .ok (.iconst 1, 1) := by decide +kernel
theorem dL_isPeeledSo_252 : decode cL_isPeeledSo 252 = .ok (.goto 4, 3) := by decide +kernel
theorem dL_isPeeledSo_255 : decode cL_isPeeledSo 255 = .ok (.iconst 0, 1) := by decide +kernel
theorem dL_isPeeledSo_256 : decode cL_isPeeledSo 256 = .ok (.iload 5, 2) := by decide +kernel
theorem dL_isPeeledSo_258 : decode cL_isPeeledSo 258 = .ok (.ifCond .ne 7, 3) := by decide +kernel
theorem dL_isPeeledSo_261 : decode cL_isPeeledSo 261 = .ok (.iconst 1, 1) := by decide +kernel
theorem dL_isPeeledSo_262 : decode cL_isPeeledSo 262 = .ok (.goto 4, 3) := by decide +kernel
theorem dL_isPeeledSo_265 : decode cL_isPeeledSo 265 = .ok (.iconst 0, 1) := by decide +kernel
theorem dL_isPeeledSo_266 : decode cL_isPeeledSo 266 = .ok (.if_icmp .ne 7, 3) := by decide +kernel
theorem dL_isPeeledSo_269 : decode cL_isPeeledSo 269 = .ok (.iconst 1, 1) := by decide +kernel
theorem dL_isPeeledSo_270 : decode cL_isPeeledSo 270 = .ok (.goto 4, 3) := by decide +kernel
theorem dL_isPeeledSo_273 : decode cL_isPeeledSo 273 = .ok (.iconst 0, 1) := by decide +kernel
theorem dL_isPeeledSo_274 : decode cL_isPeeledSo 274 = .ok (.istore 7, 2) := by decide +kernel
theorem dL_isPeeledSo_276 : decode cL_isPeeledSo 276 = .ok (.iload 7, 2) := by decide +kernel
theorem dL_isPeeledSo_278 : decode cL_isPeeledSo 278 = .ok (.ifCond .eq 52, 3) := by decide +kernel
theorem dL_isPeeledSo_281 : decode cL_isPeeledSo 281 = .ok (.iload_n 1, 1) := by decide +kernel
theorem dL_isPeeledSo_282 : decode cL_isPeeledSo 282 = .ok (.ifCond .ne 15, 3) := by decide +kernel
theorem dL_isPeeledSo_285 : decode cL_isPeeledSo 285 = .ok (.aload_n 0, 1) := by decide +kernel
theorem dL_isPeeledSo_286 : decode cL_isPeeledSo 286 = .ok (.invokevirtual 99, 3) := by decide +kernel
theorem dL_isPeeledSo_289 : decode cL_isPeeledSo 289 = .ok (.dconst 0, 1) := by decide +kernel
theorem dL_isPeeledSo_290 : decode cL_isPeeledSo 290 = .ok (.dcmp .l, 1) := by decide +kernel
theorem dL_isPeeledSo_291 : decode cL_isPeeledSo 291 = .ok (.ifCond .ne 39, 3) := by decide +kernel
theorem dL_isPeeledSo_294 : decode cL_isPeeledSo 294 = .ok (.goto 32, 3) := by decide +kernel
theorem dL_isPeeledSo_297 : decode cL_isPeeledSo 297 = .ok (.aload_n 0, 1) := by decide +kernel
theorem dL_isPeeledSo_298 : decode cL_isPeeledSo 298 = .ok (.invokevirtual 99, 3) := by decide +kernel
theorem dL_isPeeledSo_301 : decode cL_isPeeledSo 301 = .ok (.iload 6, 2) := by decide +kernel
theorem dL_isPeeledSo_303 : decode cL_isPeeledSo 303 = .ok (.i2d, 1) := by decide +kernel
theorem dL_isPeeledSo_304 : decode cL_isPeeledSo 304 = .ok (.iload 5, 2) := by decide +kernel
theorem dL_isPeeledSo_306 : decode cL_isPeeledSo 306 = .ok (.i2d, 1) := by decide +kernel
theorem dL_isPeeledSo_307 : decode cL_isPeeledSo 307 = .ok (.ddiv, 1) := by decide +kernel
theorem dL_isPeeledSo_308 : decode cL_isPeeledSo 308 = .ok (.dcmp .l, 1) := by decide +kernel
theorem dL_isPeeledSo_309 : decode cL_isPeeledSo 309 = .ok (.ifCond .ne 21, 3) := by decide +kernel
theorem dL_isPeeledSo_312 : decode cL_isPeeledSo 312 = .ok (.iload 6, 2) := by decide +kernel
theorem dL_isPeeledSo_314 : decode cL_isPeeledSo 314 = .ok (.iload_n 1, 1) := by decide +kernel
theorem dL_isPeeledSo_315 : decode cL_isPeeledSo 315 = .ok (.imul, 1) := by decide +kernel
theorem dL_isPeeledSo_316 : decode cL_isPeeledSo 316 = .ok (.aload_n 0, 1) := by decide +kernel
theorem dL_isPeeledSo_317 : decode cL_isPeeledSo 317 = .ok (.invokevirtual 59, 3) := by decide +kernel
theorem dL_isPeeledSo_320 : decode cL_isPeeledSo 320 = .ok (.iload 5, 2) := by decide +kernel
theorem dL_isPeeledSo_322 : decode cL_isPeeledSo 322 = .ok (.imul, 1) := by decide +kernel
theorem dL_isPeeledSo_323 : decode cL_isPeeledSo 323 = .ok (.if_icmp .lt 7, 3) := by decide +kernel
theorem dL_isPeeledSo_326 : decode cL_isPeeledSo 326 = .ok (.iconst 1, 1) := by decide +kernel
theorem dL_isPeeledSo_327 : decode cL_isPeeledSo 327 = .ok (.goto 4, 3) := by decide +kernel
theorem dL_isPeeledSo_330 : decode cL_isPeeledSo 330 = .ok (.iconst 0, 1) := by decide +kernel
theorem dL_isPeeledSo_331 : decode cL_isPeeledSo 331 = .ok (.ireturn, 1) := by decide +kernel
set_option maxRecDepth 20000 in
theorem ggL_arePairsSo_L_together : GoodIn wsL_arePairsSo wsL_together := goodIn_ca (goodIn_ca (goodIn_r _ [4, 5, 6, 7, 8, 9, 10, 11, 12, 13, 14, 15, 16, 17, 18, 19, 20, 21, 22, 23, 24, 25, 26, 27, 28, 29, 30, 31, 32, 33, 34, 35, 36, 37, 38, 39, 40, 41, 42, 43, 44, 100, 101, 102, 103, 104, 105] (by decide +kernel) (by decide +kernel)) (goodIn_sub (fun _ h => List.mem_cons_of_mem _ (List.mem_append_left _ (List.mem_append_left _ (List.mem_append_right _ h)))) (by decide +kernel))) (goodIn_sub (fun _ h => List.mem_cons_of_mem _ (List.mem_append_left _ (List.mem_append_right _ h))) (by decide +kernel))
set_option maxRecDepth 20000 in
theorem gL_arePairsSo_L_together : GoodIn wsL_arePairsSo (va_wsS RL 87 yL_together wsL_together) := goodIn_app (goodIn_of _ (by decide +kernel)) ggL_arePairsSo_L_together
set_option maxRecDepth 20000 in
theorem ggL_arePairsSo_L_truss : GoodIn wsL_arePairsSo wsL_truss := goodIn_ca (goodIn_ca (goodIn_r _ [47, 5, 6, 7, 48, 49, 50, 11, 51, 52, 20, 21, 22, 23, 24, 25, 26, 53, 54, 55, 56, 13, 14, 41, 42, 43, 44, 27, 28, 29, 57, 58, 59, 60, 61, 62, 63, 64, 65, 66, 67, 68, 69, 70, 71, 72, 73, 74, 75, 76, 77, 78, 79, 80, 81, 100, 101, 102, 103, 104, 105] (by decide +kernel) (by decide +kernel)) (goodIn_sub (fun _ h => List.mem_cons_of_mem _ (List.mem_append_left _ (List.mem_append_right _ h))) (by decide +kernel))) (goodIn_sub (fun _ h => List.mem_cons_of_mem _ (List.mem_append_left _ (List.mem_append_left _ (List.mem_append_right _ h)))) (by decide +kernel))
set_option maxRecDepth 20000 in
theorem gL_arePairsSo_L_truss : GoodIn wsL_arePairsSo (va_wsS RL 103 yL_truss wsL_truss) := goodIn_app (goodIn_of _ (by decide +kernel)) ggL_arePairsSo_L_truss
set_option maxRecDepth 20000 in
theorem ggL_arePairsSo_X0_core : GoodIn wsL_arePairsSo wsX0_core := goodIn_ca (goodIn_r _ [85, 15, 20, 21, 22, 11, 23, 24, 25, 26, 100, 101, 102, 103, 104, 105] (by decide +kernel) (by decide +kernel)) (goodIn_sub (fun _ h => List.mem_cons_of_mem _ (List.mem_append_left _ (List.mem_append_right _ h))) (by decide +kernel))
set_option maxRecDepth 20000 in
theorem gL_arePairsSo_X0_core : GoodIn wsL_arePairsSo (wsV RL 71 RX0 yX0_core wsX0_core) := goodIn_app (goodIn_of _ (by decide +kernel)) ggL_arePairsSo_X0_core
set_option maxRecDepth 20000 in
theorem ggL_arePairsSo_X0_areJoined : GoodIn wsL_arePairsSo wsX0_areJoined := goodIn_ca (goodIn_r _ [89, 41, 20, 21, 22, 11, 23, 24, 25, 26, 42, 43, 44, 27, 28, 29, 100, 101, 102, 103, 104, 105] (by decide +kernel) (by decide +kernel)) (goodIn_sub (fun _ h => List.mem_cons_of_mem _ (List.mem_append_left _ (List.mem_append_right _ h))) (by decide +kernel))
set_option maxRecDepth 20000 in
theorem gL_arePairsSo_X0_areJoined : GoodIn wsL_arePairsSo (wsV RL 80 RX0 yX0_areJoined wsX0_areJoined) := goodIn_app (goodIn_of _ (by decide +kernel)) ggL_arePairsSo_X0_areJoined
set_option maxRecDepth 20000 in
theorem ggL_arePairsSo_X0_support : GoodIn wsL_arePairsSo wsX0_support := goodIn_ca (goodIn_ca (goodIn_r _ [93, 41, 20, 21, 22, 11, 23, 24, 25, 26, 53, 54, 55, 56, 13, 14, 42, 43, 44, 27, 28, 29, 69, 70, 71, 72, 73, 74, 75, 76, 77, 78, 100, 101, 102, 103, 104, 105] (by decide +kernel) (by decide +kernel)) (goodIn_sub (fun _ h => List.mem_cons_of_mem _ (List.mem_append_left _ (List.mem_append_right _ h))) (by decide +kernel))) (goodIn_sub (fun _ h => List.mem_cons_of_mem _ (List.mem_append_left _ (List.mem_append_left _ (List.mem_append_right _ h)))) (by decide +kernel))
set_option maxRecDepth 20000 in
theorem gL_arePairsSo_X0_support : GoodIn wsL_arePairsSo (wsV RL 105 RX0 yX0_support wsX0_support) := goodIn_app (goodIn_of _ (by decide +kernel)) ggL_arePairsSo_X0_support
set_option maxRecDepth 20000 in
theorem ggL_arePairsSo_X0_trussSize : GoodIn wsL_arePairsSo wsX0_trussSize := goodIn_ca (goodIn_r _ [97, 98, 99, 26, 52, 57, 58, 59, 11, 60, 41, 61, 62, 63, 64, 65, 66, 67, 68, 42, 43, 44, 27, 28, 29, 69, 70, 71, 72, 73, 74, 75, 76, 77, 78, 79, 80, 81, 100, 101, 102, 103, 104, 105] (by decide +kernel) (by decide +kernel)) (goodIn_sub (fun _ h => List.mem_cons_of_mem _ (List.mem_append_right _ h)) (by decide +kernel))
set_option maxRecDepth 20000 in
theorem gL_arePairsSo_X0_trussSize : GoodIn wsL_arePairsSo (wsV RL 108 RX0 yX0_trussSize wsX0_trussSize) := goodIn_app (goodIn_of _ (by decide +kernel)) ggL_arePairsSo_X0_trussSize
theorem dL_arePairsSo_0 : decode cL_arePairsSo 0 = .ok (.aload_n 0, 1) := by decide +kernel
theorem dL_arePairsSo_1 : decode cL_arePairsSo 1 = .ok (.iload_n 1, 1) := by decide +kernel
theorem dL_arePairsSo_2 : decode cL_arePairsSo 2 = .ok (.iload_n 2, 1) := by decide +kernel
theorem dL_arePairsSo_3 : decode cL_arePairsSo 3 = .ok (.invokestatic 87, 3) := by decide +kernel
theorem dL_arePairsSo_6 : decode cL_arePairsSo 6 = .ok (.istore_n 3, 1) := by decide +kernel
theorem dL_arePairsSo_7 : decode cL_arePairsSo 7 = .ok (.aload_n 0, 1) := by decide +kernel
theorem dL_arePairsSo_8 : decode cL_arePairsSo 8 = .ok (.iload_n 1, 1) := by decide +kernel
theorem dL_arePairsSo_9 : decode cL_arePairsSo 9 = .ok (.iload_n 2, 1) := by decide +kernel
theorem dL_arePairsSo_10 : decode cL_arePairsSo 10 = .ok (.invokestatic 103, 3) := by decide +kernel
theorem dL_arePairsSo_13 : decode cL_arePairsSo 13 = .ok (.istore 4, 2) := by decide +kernel
theorem dL_arePairsSo_15 : decode cL_arePairsSo 15 = .ok (.aload_n 0, 1) := by decide +kernel
theorem dL_arePairsSo_16 : decode cL_arePairsSo 16 = .ok (.iload_n 2, 1) := by decide +kernel
theorem dL_arePairsSo_17 : decode cL_arePairsSo 17 = .ok (.iload_n 1, 1) := by decide +kernel
theorem dL_arePairsSo_18 : decode cL_arePairsSo 18 = .ok (.invokestatic 87, 3) := by decide +kernel
theorem dL_arePairsSo_21 : decode cL_arePairsSo 21 = .ok (.iload_n 3, 1) := by decide +kernel
theorem dL_arePairsSo_22 : decode cL_arePairsSo 22 = .ok (.if_icmp .ne 56, 3) := by decide +kernel
theorem dL_arePairsSo_25 : decode cL_arePairsSo 25 = .ok (.iload_n 3, 1) := by decide +kernel
theorem dL_arePairsSo_26 : decode cL_arePairsSo 26 = .ok (.aload_n 0, 1) := by decide +kernel
theorem dL_arePairsSo_27 : decode cL_arePairsSo 27 = .ok (.iload_n 1, 1) := by decide +kernel
theorem dL_arePairsSo_28 : decode cL_arePairsSo 28 = .ok (.invokevirtual 71, 3) := by decide +kernel
theorem dL_arePairsSo_31 : decode cL_arePairsSo 31 = .ok (.if_icmp .gt 47, 3) := by decide +kernel
theorem dL_arePairsSo_34 : decode cL_arePairsSo 34 = .ok (.iload_n 3, 1) := by decide +kernel
theorem dL_arePairsSo_35 : decode cL_arePairsSo 35 = .ok (.aload_n 0, 1) := by decide +kernel
theorem dL_arePairsSo_36 : decode cL_arePairsSo 36 = .ok (.iload_n 2, 1) := by decide +kernel
theorem dL_arePairsSo_37 : decode cL_arePairsSo 37 = .ok (.invokevirtual 71, 3) := by decide +kernel
theorem dL_arePairsSo_40 : decode cL_arePairsSo 40 = .ok (.if_icmp .gt 38, 3) := by decide +kernel
theorem dL_arePairsSo_43 : decode cL_arePairsSo 43 = .ok (.aload_n 0, 1) := by decide +kernel
theorem dL_arePairsSo_44 : decode cL_arePairsSo 44 = .ok (.iload_n 2, 1) := by decide +kernel
theorem dL_arePairsSo_45 : decode cL_arePairsSo 45 = .ok (.iload_n 1, 1) := by decide +kernel
theorem dL_arePairsSo_46 : decode cL_arePairsSo 46 = .ok (.invokestatic 103, 3) := by decide +kernel
theorem dL_arePairsSo_49 : decode cL_arePairsSo 49 = .ok (.iload 4, 2) := by decide +kernel
theorem dL_arePairsSo_51 : decode cL_arePairsSo 51 = .ok (.if_icmp .ne 27, 3) := by decide +kernel
theorem dL_arePairsSo_54 : decode cL_arePairsSo 54 = .ok (.iload 4, 2) := by decide +kernel
theorem dL_arePairsSo_56 : decode cL_arePairsSo 56 = .ok (.iconst 2, 1) := by decide +kernel
theorem dL_arePairsSo_57 : decode cL_arePairsSo 57 = .ok (.if_icmp .lt 7, 3) := by decide +kernel
theorem dL_arePairsSo_60 : decode cL_arePairsSo 60 = .ok (.iconst 1, 1) := by decide +kernel
theorem dL_arePairsSo_61 : decode cL_arePairsSo 61 = .ok (.goto 4, 3) := by decide +kernel
theorem dL_arePairsSo_64 : decode cL_arePairsSo 64 = .ok (.iconst 0, 1) := by decide +kernel
theorem dL_arePairsSo_65 : decode cL_arePairsSo 65 = .ok (.aload_n 0, 1) := by decide +kernel
theorem dL_arePairsSo_66 : decode cL_arePairsSo 66 = .ok (.iload_n 1, 1) := by decide +kernel
theorem dL_arePairsSo_67 : decode cL_arePairsSo 67 = .ok (.iload_n 2, 1) := by decide +kernel
theorem dL_arePairsSo_68 : decode cL_arePairsSo 68 = .ok (.invokevirtual 80, 3) := by decide +kernel
theorem dL_arePairsSo_71 : decode cL_arePairsSo 71 = .ok (.if_icmp .ne 7, 3) := by decide +kernel
theorem dL_arePairsSo_74 : decode cL_arePairsSo 74 = .ok (.iconst 1, 1) := by decide +kernel
theorem dL_arePairsSo_75 : decode cL_arePairsSo 75 = .ok (.goto 4, 3) := by decide +kernel
theorem dL_arePairsSo_78 : decode cL_arePairsSo 78 = .ok (.iconst 0, 1) := by decide +kernel
theorem dL_arePairsSo_79 : decode cL_arePairsSo 79 = .ok (.istore 5, 2) := by decide +kernel
theorem dL_arePairsSo_81 : decode cL_arePairsSo 81 = .ok (.iload 5, 2) := by decide +kernel
theorem dL_arePairsSo_83 : decode cL_arePairsSo 83 = .ok (.ifCond .eq 105, 3) := by decide +kernel
theorem dL_arePairsSo_86 : decode cL_arePairsSo 86 = .ok (.iload 4, 2) := by decide +kernel
theorem dL_arePairsSo_88 : decode cL_arePairsSo 88 = .ok (.iconst 2, 1) := by decide +kernel
theorem dL_arePairsSo_89 : decode cL_arePairsSo 89 = .ok (.if_icmp .lt 99, 3) := by decide +kernel
theorem dL_arePairsSo_92 : decode cL_arePairsSo 92 = .ok (.aload_n 0, 1) := by decide +kernel
theorem dL_arePairsSo_93 : decode cL_arePairsSo 93 = .ok (.iload_n 1, 1) := by decide +kernel
theorem dL_arePairsSo_94 : decode cL_arePairsSo 94 = .ok (.invokevirtual 71, 3) := by decide +kernel
theorem dL_arePairsSo_97 : decode cL_arePairsSo 97 = .ok (.aload_n 0, 1) := by decide +kernel
theorem dL_arePairsSo_98 : decode cL_arePairsSo 98 = .ok (.iload_n 2, 1) := by decide +kernel
theorem dL_arePairsSo_99 : decode cL_arePairsSo 99 = .ok (.invokevirtual 71, 3) := by decide +kernel
theorem dL_arePairsSo_102 : decode cL_arePairsSo 102 = .ok (.if_icmp .ge 11, 3) := by decide +kernel
theorem dL_arePairsSo_105 : decode cL_arePairsSo 105 = .ok (.aload_n 0, 1) := by decide +kernel
theorem dL_arePairsSo_106 : decode cL_arePairsSo 106 = .ok (.iload_n 1, 1) := by decide +kernel
theorem dL_arePairsSo_107 : decode cL_arePairsSo 107 = .ok (.invokevirtual 71, 3) := by decide +kernel
theorem dL_arePairsSo_110 : decode cL_arePairsSo 110 = .ok (.goto 8, 3) := by decide +kernel
theorem dL_arePairsSo_113 : decode cL_arePairsSo 113 = .ok (.aload_n 0, 1) := by decide +kernel
theorem dL_arePairsSo_114 : decode cL_arePairsSo 114 = .ok (.iload_n 2, 1) := by decide +kernel
theorem dL_arePairsSo_115 : decode cL_arePairsSo 115 = .ok (.invokevirtual 71, 3) := by decide +kernel
theorem dL_arePairsSo_118 : decode cL_arePairsSo 118 = .ok (.istore 6, 2) := by decide +kernel
theorem dL_arePairsSo_120 : decode cL_arePairsSo 120 = .ok (.iload_n 3, 1) := by decide +kernel
theorem dL_arePairsSo_121 : decode cL_arePairsSo 121 = .ok (.iload 6, 2) := by decide +kernel
theorem dL_arePairsSo_123 : decode cL_arePairsSo 123 = .ok (.if_icmp .ne 62, 3) := by decide +kernel
theorem dL_arePairsSo_126 : decode cL_arePairsSo 126 = .ok (.iload 4, 2) := by decide +kernel
theorem dL_arePairsSo_128 : decode cL_arePairsSo 128 = .ok (.iconst 1, 1) := by decide +kernel
theorem dL_arePairsSo_129 : decode cL_arePairsSo 129 = .ok (.isub, 1) := by decide +kernel
theorem dL_arePairsSo_130 : decode cL_arePairsSo 130 = .ok (.iload 6, 2) := by decide +kernel
theorem dL_arePairsSo_132 : decode cL_arePairsSo 132 = .ok (.if_icmp .gt 53, 3) := by decide +kernel
theorem dL_arePairsSo_135 : decode cL_arePairsSo 135 = .ok (.iload 4, 2) := by decide +kernel
theorem dL_arePairsSo_137 : decode cL_arePairsSo 137 = .ok (.iconst 2, 1) := by decide +kernel
theorem dL_arePairsSo_138 : decode cL_arePairsSo 138 = .ok (.isub, 1) := by decide +kernel
theorem dL_arePairsSo_139 : decode cL_arePairsSo 139 = .ok (.aload_n 0, 1) := by decide +kernel
theorem dL_arePairsSo_140 : decode cL_arePairsSo 140 = .ok (.iload_n 1, 1) := by decide +kernel
theorem dL_arePairsSo_141 : decode cL_arePairsSo 141 = .ok (.iload_n 2, 1) := by decide +kernel
theorem dL_arePairsSo_142 : decode cL_arePairsSo 142 = .ok (.invokevirtual 105, 3) := by decide +kernel
theorem dL_arePairsSo_145 : decode cL_arePairsSo 145 = .ok (.if_icmp .gt 40, 3) := by decide +kernel
theorem dL_arePairsSo_148 : decode cL_arePairsSo 148 = .ok (.aload_n 0, 1) := by decide +kernel
theorem dL_arePairsSo_149 : decode cL_arePairsSo 149 = .ok (.iload_n 1, 1) := by decide +kernel
theorem dL_arePairsSo_150 : decode cL_arePairsSo 150 = .ok (.iload_n 2, 1) := by decide +kernel
theorem dL_arePairsSo_151 : decode cL_arePairsSo 151 = .ok (.invokevirtual 105, 3) := by decide +kernel
theorem dL_arePairsSo_154 : decode cL_arePairsSo 154 = .ok (.aload_n 0, 1) := by decide +kernel
theorem dL_arePairsSo_155 : decode cL_arePairsSo 155 = .ok (.iload_n 2, 1) := by decide +kernel
theorem dL_arePairsSo_156 : decode cL_arePairsSo 156 = .ok (.iload_n 1, 1) := by decide +kernel
theorem dL_arePairsSo_157 : decode cL_arePairsSo 157 = .ok (.invokevirtual 105, 3) := by decide +kernel
theorem dL_arePairsSo_160 : decode cL_arePairsSo 160 = .ok (.if_icmp .ne 25, 3) := by decide +kernel
theorem dL_arePairsSo_163 : decode cL_arePairsSo 163 = .ok (.aload_n 0, 1) := by decide +kernel
theorem dL_arePairsSo_164 : decode cL_arePairsSo 164 = .ok (.iload 4, 2) := by decide +kernel
theorem dL_arePairsSo_166 : decode cL_arePairsSo 166 = .ok (.invokevirtual 108, 3) := by decide +kernel
theorem dL_arePairsSo_169 : decode cL_arePairsSo 169 = .ok (.iload 4, 2) := by decide +kernel
theorem dL_arePairsSo_171 : decode cL_arePairsSo 171 = .ok (.iload 4, 2) := by decide +kernel
theorem dL_arePairsSo_173 : decode cL_arePairsSo 173 = .ok (.iconst 1, 1) := by decide +kernel
theorem dL_arePairsSo_174 : decode cL_arePairsSo 174 = .ok (.isub, 1) := by decide +kernel
theorem dL_arePairsSo_175 : decode cL_arePairsSo 175 = .ok (.imul, 1) := by decide +kernel
theorem dL_arePairsSo_176 : decode cL_arePairsSo 176 = .ok (.iconst 2, 1) := by decide +kernel
theorem dL_arePairsSo_177 : decode cL_arePairsSo 177 = .ok (.idiv, 1) := by decide +kernel
theorem dL_arePairsSo_178 : decode cL_arePairsSo 178 = .ok (.if_icmp .lt 7, 3) := by decide +kernel
theorem dL_arePairsSo_181 : decode cL_arePairsSo 181 = .ok (.iconst 1, 1) := by decide +kernel
theorem dL_arePairsSo_182 : decode cL_arePairsSo 182 = .ok (.goto 4, 3) := by decide +kernel
theorem dL_arePairsSo_185 : decode cL_arePairsSo 185 = .ok (.iconst 0, 1) := by decide +kernel
theorem dL_arePairsSo_186 : decode cL_arePairsSo 186 = .ok (.istore 5, 2) := by decide +kernel
theorem dL_arePairsSo_188 : decode cL_arePairsSo 188 = .ok (.iload 5, 2) := by decide +kernel
theorem dL_arePairsSo_190 : decode cL_arePairsSo 190 = .ok (.ireturn, 1) := by decide +kernel
set_option maxRecDepth 20000 in
theorem ggL_areCoresSo_X0_degeneracy : GoodIn wsL_areCoresSo wsX0_degeneracy := goodIn_r _ [5, 6, 7, 8, 9, 10, 11, 95, 96, 97, 98, 99, 100] (by decide +kernel) (by decide +kernel)
set_option maxRecDepth 20000 in
theorem gL_areCoresSo_X0_degeneracy : GoodIn wsL_areCoresSo (wsV RL 65 RX0 yX0_degeneracy wsX0_degeneracy) := goodIn_app (goodIn_of _ (by decide +kernel)) ggL_areCoresSo_X0_degeneracy
set_option maxRecDepth 20000 in
theorem ggL_areCoresSo_X0_coreSize : GoodIn wsL_areCoresSo wsX0_coreSize := goodIn_ca (goodIn_r _ [15, 16, 17, 4, 18, 19, 20, 21, 22, 23, 24, 6, 7, 25, 26, 27, 28, 29, 30, 31, 32, 33, 34, 35, 36, 37, 38, 39, 40, 95, 96, 97, 98, 99, 100] (by decide +kernel) (by decide +kernel)) (goodIn_sub (fun _ h => List.mem_cons_of_mem _ (List.mem_append_right _ h)) (by decide +kernel))
set_option maxRecDepth 20000 in
theorem gL_areCoresSo_X0_coreSize : GoodIn wsL_areCoresSo (wsV RL 111 RX0 yX0_coreSize wsX0_coreSize) := goodIn_app (goodIn_of _ (by decide +kernel)) ggL_areCoresSo_X0_coreSize
set_option maxRecDepth 20000 in
theorem ggL_areCoresSo_X0_nodes : GoodIn wsL_areCoresSo wsX0_nodes := goodIn_r _ [44, 6, 95, 96, 97, 98, 99, 100] (by decide +kernel) (by decide +kernel)
set_option maxRecDepth 20000 in
theorem gL_areCoresSo_X0_nodes : GoodIn wsL_areCoresSo (wsV RL 45 RX0 yX0_nodes wsX0_nodes) := goodIn_app (goodIn_of _ (by decide +kernel)) ggL_areCoresSo_X0_nodes
set_option maxRecDepth 20000 in
theorem ggL_areCoresSo_X0_communities : GoodIn wsL_areCoresSo wsX0_communities := goodIn_ca (goodIn_r _ [48, 16, 17, 4, 18, 19, 20, 21, 22, 23, 24, 6, 7, 25, 26, 27, 28, 29, 30, 49, 50, 51, 52, 53, 54, 55, 56, 57, 58, 59, 60, 95, 96, 97, 98, 99, 100] (by decide +kernel) (by decide +kernel)) (goodIn_sub (fun _ h => List.mem_cons_of_mem _ (List.mem_append_right _ h)) (by decide +kernel))
set_option maxRecDepth 20000 in
theorem gL_areCoresSo_X0_communities : GoodIn wsL_areCoresSo (wsV RL 114 RX0 yX0_communities wsX0_communities) := goodIn_app (goodIn_of _ (by decide +kernel)) ggL_areCoresSo_X0_communities
set_option maxRecDepth 20000 in
theorem ggL_areCoresSo_X0_trussSize : GoodIn wsL_areCoresSo wsX0_trussSize := goodIn_ca (goodIn_r _ [64, 19, 20, 6, 65, 66, 67, 68, 4, 69, 60, 70, 71, 72, 73, 74, 75, 76, 77, 53, 54, 55, 28, 29, 30, 31, 32, 33, 34, 35, 36, 37, 38, 39, 40, 78, 79, 80, 95, 96, 97, 98, 99, 100] (by decide +kernel) (by decide +kernel)) (goodIn_sub (fun _ h => List.mem_cons_of_mem _ (List.mem_append_right _ h)) (by decide +kernel))
set_option maxRecDepth 20000 in
theorem gL_areCoresSo_X0_trussSize : GoodIn wsL_areCoresSo (wsV RL 108 RX0 yX0_trussSize wsX0_trussSize) := goodIn_app (goodIn_of _ (by decide +kernel)) ggL_areCoresSo_X0_trussSize
set_option maxRecDepth 20000 in
theorem ggL_areCoresSo_X0_edges : GoodIn wsL_areCoresSo wsX0_edges := goodIn_r _ [84, 85, 95, 96, 97, 98, 99, 100] (by decide +kernel) (by decide +kernel)
set_option maxRecDepth 20000 in
theorem gL_areCoresSo_X0_edges : GoodIn wsL_areCoresSo (wsV RL 59 RX0 yX0_edges wsX0_edges) := goodIn_app (goodIn_of _ (by decide +kernel)) ggL_areCoresSo_X0_edges
set_option maxRecDepth 20000 in
theorem ggL_areCoresSo_X0_hierarchy : GoodIn wsL_areCoresSo wsX0_hierarchy := goodIn_r _ [89, 90, 2, 3, 4, 5, 6, 7, 8, 9, 10, 11, 21, 22, 23, 24, 25, 26, 27, 28, 29, 30, 91, 92, 93, 94, 49, 50, 51, 52, 53, 54, 55, 56, 57, 58, 59, 60, 95, 96, 97, 98, 99, 100] (by decide +kernel) (by decide +kernel)
set_option maxRecDepth 20000 in
theorem gL_areCoresSo_X0_hierarchy : GoodIn wsL_areCoresSo (wsV RL 117 RX0 yX0_hierarchy wsX0_hierarchy) := goodIn_app (goodIn_of _ (by decide +kernel)) ggL_areCoresSo_X0_hierarchy
theorem dL_areCoresSo_0 : decode cL_areCoresSo 0 = .ok (.aload_n 0, 1) := by decide +kernel
theorem dL_areCoresSo_1 : decode cL_areCoresSo 1 = .ok (.invokevirtual 65, 3) := by decide +kernel
theorem dL_areCoresSo_4 : decode cL_areCoresSo 4 = .ok (.istore_n 1, 1) := by decide +kernel
theorem dL_areCoresSo_5 : decode cL_areCoresSo 5 = .ok (.aload_n 0, 1) := by decide +kernel
theorem dL_areCoresSo_6 : decode cL_areCoresSo 6 = .ok (.iconst 0, 1) := by decide +kernel
theorem dL_areCoresSo_7 : decode cL_areCoresSo 7 = .ok (.invokevirtual 111, 3) := by decide +kernel
theorem dL_areCoresSo_10 : decode cL_areCoresSo 10 = .ok (.aload_n 0, 1) := by decide +kernel
theorem dL_areCoresSo_11 : decode cL_areCoresSo 11 = .ok (.invokevirtual 45, 3) := by decide +kernel
theorem dL_areCoresSo_14 : decode cL_areCoresSo 14 = .ok (.if_icmp .ne 67, 3) := by decide +kernel
theorem dL_areCoresSo_17 : decode cL_areCoresSo 17 = .ok (.aload_n 0, 1) := by decide +kernel
theorem dL_areCoresSo_18 : decode cL_areCoresSo 18 = .ok (.iload_n 1, 1) := by decide +kernel
theorem dL_areCoresSo_19 : decode cL_areCoresSo 19 = .ok (.iconst 1, 1) := by decide +kernel
theorem dL_areCoresSo_20 : decode cL_areCoresSo 20 = .ok (.iadd, 1) := by decide +kernel
theorem dL_areCoresSo_21 : decode cL_areCoresSo 21 = .ok (.invokevirtual 111, 3) := by decide +kernel
theorem dL_areCoresSo_24 : decode cL_areCoresSo 24 = .ok (.ifCond .ne 57, 3) := by decide +kernel
theorem dL_areCoresSo_27 : decode cL_areCoresSo 27 = .ok (.aload_n 0, 1) := by decide +kernel
theorem dL_areCoresSo_28 : decode cL_areCoresSo 28 = .ok (.invokevirtual 45, 3) := by decide +kernel
theorem dL_areCoresSo_31 : decode cL_areCoresSo 31 = .ok (.ifCond .eq 12, 3) := by decide +kernel
theorem dL_areCoresSo_34 : decode cL_areCoresSo 34 = .ok (.aload_n 0, 1) := by decide +kernel
theorem dL_areCoresSo_35 : decode cL_areCoresSo 35 = .ok (.iload_n 1, 1) := by decide +kernel
theorem dL_areCoresSo_36 : decode cL_areCoresSo 36 = .ok (.invokevirtual 111, 3) := by decide +kernel
theorem dL_areCoresSo_39 : decode cL_areCoresSo 39 = .ok (.iload_n 1, 1) := by decide +kernel
theorem dL_areCoresSo_40 : decode cL_areCoresSo 40 = .ok (.if_icmp .le 41, 3) := by decide +kernel
theorem dL_areCoresSo_43 : decode cL_areCoresSo 43 = .ok (.aload_n 0, 1) := by decide +kernel
theorem dL_areCoresSo_44 : decode cL_areCoresSo 44 = .ok (.iload_n 1, 1) := by decide +kernel
theorem dL_areCoresSo_45 : decode cL_areCoresSo 45 = .ok (.iconst 1, 1) := by decide +kernel
theorem dL_areCoresSo_46 : decode cL_areCoresSo 46 = .ok (.iadd, 1) := by decide +kernel
theorem dL_areCoresSo_47 : decode cL_areCoresSo 47 = .ok (.invokevirtual 114, 3) := by decide +kernel
theorem dL_areCoresSo_50 : decode cL_areCoresSo 50 = .ok (.ifCond .ne 31, 3) := by decide +kernel
theorem dL_areCoresSo_53 : decode cL_areCoresSo 53 = .ok (.aload_n 0, 1) := by decide +kernel
theorem dL_areCoresSo_54 : decode cL_areCoresSo 54 = .ok (.iconst 2, 1) := by decide +kernel
theorem dL_areCoresSo_55 : decode cL_areCoresSo 55 = .ok (.invokevirtual 108, 3) := by decide +kernel
theorem dL_areCoresSo_58 : decode cL_areCoresSo 58 = .ok (.aload_n 0, 1) := by decide +kernel
theorem dL_areCoresSo_59 : decode cL_areCoresSo 59 = .ok (.invokevirtual 59, 3) := by decide +kernel
theorem dL_areCoresSo_62 : decode cL_areCoresSo 62 = .ok (.if_icmp .ne 19, 3) := by decide +kernel
theorem dL_areCoresSo_65 : decode cL_areCoresSo 65 = .ok (.aload_n 0, 1) := by decide +kernel
theorem dL_areCoresSo_66 : decode cL_areCoresSo 66 = .ok (.invokevirtual 117, 3) := by decide +kernel
theorem dL_areCoresSo_69 : decode cL_areCoresSo 69 = .ok (.aload_n 0, 1) := by decide +kernel
theorem dL_areCoresSo_70 : decode cL_areCoresSo 70 = .ok (.iconst 0, 1) := by decide +kernel
theorem dL_areCoresSo_71 : decode cL_areCoresSo 71 = .ok (.invokevirtual 114, 3) := by decide +kernel
theorem dL_areCoresSo_74 : decode cL_areCoresSo 74 = .ok (.if_icmp .lt 7, 3) := by decide +kernel
theorem dL_areCoresSo_77 : decode cL_areCoresSo 77 = .ok (.iconst 1, 1) := by decide +kernel
theorem dL_areCoresSo_78 : decode cL_areCoresSo 78 = .ok (.goto 4, 3) := by decide +kernel
theorem dL_areCoresSo_81 : decode cL_areCoresSo 81 = .ok (.iconst 0, 1) := by decide +kernel
theorem dL_areCoresSo_82 : decode cL_areCoresSo 82 = .ok (.istore_n 2, 1) := by decide +kernel
theorem dL_areCoresSo_83 : decode cL_areCoresSo 83 = .ok (.iconst 0, 1) := by decide +kernel
theorem dL_areCoresSo_84 : decode cL_areCoresSo 84 = .ok (.istore_n 3, 1) := by decide +kernel
theorem dL_areCoresSo_85 : decode cL_areCoresSo 85 = .ok (.iload_n 3, 1) := by decide +kernel
theorem dL_areCoresSo_86 : decode cL_areCoresSo 86 = .ok (.iload_n 1, 1) := by decide +kernel
theorem dL_areCoresSo_87 : decode cL_areCoresSo 87 = .ok (.if_icmp .gt 63, 3) := by decide +kernel
theorem dL_areCoresSo_90 : decode cL_areCoresSo 90 = .ok (.iload_n 2, 1) := by decide +kernel
theorem dL_areCoresSo_91 : decode cL_areCoresSo 91 = .ok (.ifCond .eq 51, 3) := by decide +kernel
theorem dL_areCoresSo_94 : decode cL_areCoresSo 94 = .ok (.aload_n 0, 1) := by decide +kernel
theorem dL_areCoresSo_95 : decode cL_areCoresSo 95 = .ok (.iload_n 3, 1) := by decide +kernel
theorem dL_areCoresSo_96 : decode cL_areCoresSo 96 = .ok (.invokevirtual 111, 3) := by decide +kernel
theorem dL_areCoresSo_99 : decode cL_areCoresSo 99 = .ok (.aload_n 0, 1) := by decide +kernel
theorem dL_areCoresSo_100 : decode cL_areCoresSo 100 = .ok (.iload_n 3, 1) := by decide +kernel
theorem dL_areCoresSo_101 : decode cL_areCoresSo 101 = .ok (.iconst 1, 1) := by decide +kernel
theorem dL_areCoresSo_102 : decode cL_areCoresSo 102 = .ok (.iadd, 1) := by decide +kernel
theorem dL_areCoresSo_103 : decode cL_areCoresSo 103 = .ok (.invokevirtual 111, 3) := by decide +kernel
theorem dL_areCoresSo_106 : decode cL_areCoresSo 106 = .ok (.if_icmp .lt 36, 3) := by decide +kernel
theorem dL_areCoresSo_109 : decode cL_areCoresSo 109 = .ok (.aload_n 0, 1) := by decide +kernel
theorem dL_areCoresSo_110 : decode cL_areCoresSo 110 = .ok (.iload_n 3, 1) := by decide +kernel
theorem dL_areCoresSo_111 : decode cL_areCoresSo 111 = .ok (.iconst 2, 1) := by decide +kernel
theorem dL_areCoresSo_112 : decode cL_areCoresSo 112 = .ok (.iadd, 1) := by decide +kernel
theorem dL_areCoresSo_113 : decode cL_areCoresSo 113 = .ok (.invokevirtual 108, 3) := by decide +kernel
theorem dL_areCoresSo_116 : decode cL_areCoresSo 116 = .ok (.aload_n 0, 1) := by decide +kernel
theorem dL_areCoresSo_117 : decode cL_areCoresSo 117 = .ok (.iload_n 3, 1) := by decide +kernel
theorem dL_areCoresSo_118 : decode cL_areCoresSo 118 = .ok (.iconst 3, 1) := by decide +kernel
theorem dL_areCoresSo_119 : decode cL_areCoresSo 119 = .ok (.iadd, 1) := by decide +kernel
theorem dL_areCoresSo_120 : decode cL_areCoresSo 120 = .ok (.invokevirtual 108, 3) := by decide +kernel
theorem dL_areCoresSo_123 : decode cL_areCoresSo 123 = .ok (.if_icmp .lt 19, 3) := by decide +kernel
theorem dL_areCoresSo_126 : decode cL_areCoresSo 126 = .ok (.aload_n 0, 1) := by decide +kernel
theorem dL_areCoresSo_127 : decode cL_areCoresSo 127 = .ok (.invokevirtual 117, 3) := by decide +kernel
theorem dL_areCoresSo_130 : decode cL_areCoresSo 130 = .ok (.aload_n 0, 1) := by decide +kernel
theorem dL_areCoresSo_131 : decode cL_areCoresSo 131 = .ok (.iload_n 3, 1) := by decide +kernel
theorem dL_areCoresSo_132 : decode cL_areCoresSo 132 = .ok (.invokevirtual 114, 3) := by decide +kernel
theorem dL_areCoresSo_135 : decode cL_areCoresSo 135 = .ok (.if_icmp .lt 7, 3) := by decide +kernel
theorem dL_areCoresSo_138 : decode cL_areCoresSo 138 = .ok (.iconst 1, 1) := by decide +kernel
theorem dL_areCoresSo_139 : decode cL_areCoresSo 139 = .ok (.goto 4, 3) := by decide +kernel
theorem dL_areCoresSo_142 : decode cL_areCoresSo 142 = .ok (.iconst 0, 1) := by decide +kernel
theorem dL_areCoresSo_143 : decode cL_areCoresSo 143 = .ok (.istore_n 2, 1) := by decide +kernel
theorem dL_areCoresSo_144 : decode cL_areCoresSo 144 = .ok (.iinc 3 1, 3) := by decide +kernel
theorem dL_areCoresSo_147 : decode cL_areCoresSo 147 = .ok (.goto (-62), 3) := by decide +kernel
theorem dL_areCoresSo_150 : decode cL_areCoresSo 150 = .ok (.iload_n 2, 1) := by decide +kernel
theorem dL_areCoresSo_151 : decode cL_areCoresSo 151 = .ok (.ireturn, 1) := by decide +kernel
