set_option maxRecDepth 20000 in
theorem ggL_addNode_X0_addNode : GoodIn wsL_addNode wsX0_addNode := goodIn_ca (goodIn_r _ [6, 7, 8, 9, 10, 11, 12, 13, 14, 15] (by decide +kernel) (by decide +kernel)) (goodIn_sub (fun _ h => List.mem_cons_of_mem _ (List.mem_append_right _ h)) (by decide +kernel))
set_option maxRecDepth 20000 in
theorem gL_addNode_X0_addNode : GoodIn wsL_addNode (wsV RL 7 RX0 yX0_addNode wsX0_addNode) := goodIn_app (goodIn_of _ (by decide +kernel)) ggL_addNode_X0_addNode
theorem dL_addNode_0 : decode cL_addNode 0 = .ok (.aload_n 1, 1) := by decide +kernel
theorem dL_addNode_1 : decode cL_addNode 1 = .ok (.iconst 0, 1) := by decide +kernel
theorem dL_addNode_2 : decode cL_addNode 2 = .ok (.aload_n 0, 1) := by decide +kernel
theorem dL_addNode_3 : decode cL_addNode 3 = .ok (.invokevirtual 7, 3) := by decide +kernel
theorem dL_addNode_6 : decode cL_addNode 6 = .ok (.i2l, 1) := by decide +kernel
theorem dL_addNode_7 : decode cL_addNode 7 = .ok (.lastore, 1) := by decide +kernel
theorem dL_addNode_8 : decode cL_addNode 8 = .ok (.goto 6, 3) := by decide +kernel
theorem dL_addNode_11 : decode cL_addNode 11 = .ok (.astore_n 2, 1) := by decide +kernel
theorem dL_addNode_12 : decode cL_addNode 12 = .ok (.iconst 1, 1) := by decide +kernel
theorem dL_addNode_13 : decode cL_addNode 13 = .ok (.ireturn, 1) := by decide +kernel
theorem dL_addNode_14 : decode cL_addNode 14 = .ok (.iconst 0, 1) := by decide +kernel
theorem dL_addNode_15 : decode cL_addNode 15 = .ok (.ireturn, 1) := by decide +kernel
set_option maxRecDepth 20000 in
theorem ggL_join_X0_join : GoodIn wsL_join wsX0_join := goodIn_ca (goodIn_ca (goodIn_ca (goodIn_r _ [8, 9, 10, 11, 12, 13, 14, 15, 7, 16, 17, 18, 19, 20, 21, 22, 23, 24, 25, 26, 27, 28, 29, 30, 31, 32, 33, 34, 35, 36, 37, 38, 39, 40, 41, 42, 43, 44, 45, 46, 47, 48, 49, 50, 51, 52, 53, 54, 55, 56, 57, 58, 59, 60, 61, 62, 63, 64, 65, 66, 67, 68, 69, 70, 71, 72, 73, 74, 75, 76, 77, 78, 79, 80, 81, 82, 83, 84, 85, 86, 87] (by decide +kernel) (by decide +kernel)) (goodIn_sub (fun _ h => List.mem_cons_of_mem _ (List.mem_append_left _ (List.mem_append_left _ (List.mem_append_right _ h)))) (by decide +kernel))) (goodIn_sub (fun _ h => List.mem_cons_of_mem _ (List.mem_append_left _ (List.mem_append_right _ h))) (by decide +kernel))) (goodIn_sub (fun _ h => List.mem_cons_of_mem _ (List.mem_append_right _ h)) (by decide +kernel))
set_option maxRecDepth 20000 in
theorem gL_join_X0_join : GoodIn wsL_join (wsV RL 15 RX0 yX0_join wsX0_join) := goodIn_app (goodIn_of _ (by decide +kernel)) ggL_join_X0_join
theorem dL_join_0 : decode cL_join 0 = .ok (.aload_n 3, 1) := by decide +kernel
theorem dL_join_1 : decode cL_join 1 = .ok (.iconst 0, 1) := by decide +kernel
theorem dL_join_2 : decode cL_join 2 = .ok (.aload_n 0, 1) := by decide +kernel
theorem dL_join_3 : decode cL_join 3 = .ok (.iload_n 1, 1) := by decide +kernel
theorem dL_join_4 : decode cL_join 4 = .ok (.iload_n 2, 1) := by decide +kernel
theorem dL_join_5 : decode cL_join 5 = .ok (.invokevirtual 15, 3) := by decide +kernel
theorem dL_join_8 : decode cL_join 8 = .ok (.i2l, 1) := by decide +kernel
theorem dL_join_9 : decode cL_join 9 = .ok (.lastore, 1) := by decide +kernel
theorem dL_join_10 : decode cL_join 10 = .ok (.goto 15, 3) := by decide +kernel
theorem dL_join_13 : decode cL_join 13 = .ok (.astore 4, 2) := by decide +kernel
theorem dL_join_15 : decode cL_join 15 = .ok (.iconst 1, 1) := by decide +kernel
theorem dL_join_16 : decode cL_join 16 = .ok (.ireturn, 1) := by decide +kernel
theorem dL_join_17 : decode cL_join 17 = .ok (.astore 4, 2) := by decide +kernel
theorem dL_join_19 : decode cL_join 19 = .ok (.iconst 2, 1) := by decide +kernel
theorem dL_join_20 : decode cL_join 20 = .ok (.ireturn, 1) := by decide +kernel
theorem dL_join_21 : decode cL_join 21 = .ok (.astore 4, 2) := by decide +kernel
theorem dL_join_23 : decode cL_join 23 = .ok (.iconst 3, 1) := by decide +kernel
theorem dL_join_24 : decode cL_join 24 = .ok (.ireturn, 1) := by decide +kernel
theorem dL_join_25 : decode cL_join 25 = .ok (.iconst 0, 1) := by decide +kernel
theorem dL_join_26 : decode cL_join 26 = .ok (.ireturn, 1) := by decide +kernel
set_option maxRecDepth 20000 in
theorem ggL_part_X0_part : GoodIn wsL_part wsX0_part := goodIn_ca (goodIn_ca (goodIn_ca (goodIn_r _ [8, 9, 10, 11, 7, 12, 13, 14, 15, 16, 17, 18, 19, 20, 21, 22, 23, 24, 25, 26, 27, 28, 29, 30, 31, 32, 33, 34, 35, 36, 37, 38, 39, 40, 41, 42, 43, 44, 45, 46, 47, 48, 49, 50, 51, 52, 53, 54, 55, 56, 57, 58, 59, 60, 61, 62, 63, 64, 65, 66, 67, 68, 69, 70, 71, 72, 73, 74, 75, 76, 77, 78, 79, 80, 81, 82, 83, 84, 85, 86, 87, 88, 89, 90, 91] (by decide +kernel) (by decide +kernel)) (goodIn_sub (fun _ h => List.mem_cons_of_mem _ (List.mem_append_left _ (List.mem_append_left _ (List.mem_append_right _ h)))) (by decide +kernel))) (goodIn_sub (fun _ h => List.mem_cons_of_mem _ (List.mem_append_left _ (List.mem_append_right _ h))) (by decide +kernel))) (goodIn_sub (fun _ h => List.mem_cons_of_mem _ (List.mem_append_right _ h)) (by decide +kernel))
set_option maxRecDepth 20000 in
theorem gL_part_X0_part : GoodIn wsL_part (wsV RL 23 RX0 yX0_part wsX0_part) := goodIn_app (goodIn_of _ (by decide +kernel)) ggL_part_X0_part
theorem dL_part_0 : decode cL_part 0 = .ok (.aload_n 3, 1) := by decide +kernel
theorem dL_part_1 : decode cL_part 1 = .ok (.iconst 0, 1) := by decide +kernel
theorem dL_part_2 : decode cL_part 2 = .ok (.aload_n 0, 1) := by decide +kernel
theorem dL_part_3 : decode cL_part 3 = .ok (.iload_n 1, 1) := by decide +kernel
theorem dL_part_4 : decode cL_part 4 = .ok (.iload_n 2, 1) := by decide +kernel
theorem dL_part_5 : decode cL_part 5 = .ok (.invokevirtual 23, 3) := by decide +kernel
theorem dL_part_8 : decode cL_part 8 = .ok (.i2l, 1) := by decide +kernel
theorem dL_part_9 : decode cL_part 9 = .ok (.lastore, 1) := by decide +kernel
theorem dL_part_10 : decode cL_part 10 = .ok (.goto 15, 3) := by decide +kernel
theorem dL_part_13 : decode cL_part 13 = .ok (.astore 4, 2) := by decide +kernel
theorem dL_part_15 : decode cL_part 15 = .ok (.iconst 1, 1) := by decide +kernel
theorem dL_part_16 : decode cL_part 16 = .ok (.ireturn, 1) := by decide +kernel
theorem dL_part_17 : decode cL_part 17 = .ok (.astore 4, 2) := by decide +kernel
theorem dL_part_19 : decode cL_part 19 = .ok (.iconst 2, 1) := by decide +kernel
theorem dL_part_20 : decode cL_part 20 = .ok (.ireturn, 1) := by decide +kernel
theorem dL_part_21 : decode cL_part 21 = .ok (.astore 4, 2) := by decide +kernel
theorem dL_part_23 : decode cL_part 23 = .ok (.iconst 3, 1) := by decide +kernel
theorem dL_part_24 : decode cL_part 24 = .ok (.ireturn, 1) := by decide +kernel
theorem dL_part_25 : decode cL_part 25 = .ok (.iconst 0, 1) := by decide +kernel
theorem dL_part_26 : decode cL_part 26 = .ok (.ireturn, 1) := by decide +kernel
set_option maxRecDepth 20000 in
theorem ggL_isolate_X0_isolate : GoodIn wsL_isolate wsX0_isolate := goodIn_ca (goodIn_r _ [6, 7, 8, 9, 10, 11, 5, 12, 13, 14, 15, 16, 17, 18, 19, 20, 21, 22, 23, 24, 25, 26, 27, 28, 29, 30, 31, 32, 33, 34, 35, 36, 37, 38, 39, 40, 41, 42, 43, 44, 45, 46, 47, 48, 49, 50, 51, 52, 53, 54, 55, 56, 57, 58, 59, 60, 61, 62, 63, 64, 65, 66, 67, 68, 69, 70, 71, 72, 73, 74, 75, 76, 77] (by decide +kernel) (by decide +kernel)) (goodIn_sub (fun _ h => List.mem_cons_of_mem _ (List.mem_append_right _ h)) (by decide +kernel))
set_option maxRecDepth 20000 in
theorem gL_isolate_X0_isolate : GoodIn wsL_isolate (wsV RL 28 RX0 yX0_isolate wsX0_isolate) := goodIn_app (goodIn_of _ (by decide +kernel)) ggL_isolate_X0_isolate
theorem dL_isolate_0 : decode cL_isolate 0 = .ok (.aload_n 2, 1) := by decide +kernel
theorem dL_isolate_1 : decode cL_isolate 1 = .ok (.iconst 0, 1) := by decide +kernel
theorem dL_isolate_2 : decode cL_isolate 2 = .ok (.aload_n 0, 1) := by decide +kernel
theorem dL_isolate_3 : decode cL_isolate 3 = .ok (.iload_n 1, 1) := by decide +kernel
theorem dL_isolate_4 : decode cL_isolate 4 = .ok (.invokevirtual 28, 3) := by decide +kernel
theorem dL_isolate_7 : decode cL_isolate 7 = .ok (.i2l, 1) := by decide +kernel
theorem dL_isolate_8 : decode cL_isolate 8 = .ok (.lastore, 1) := by decide +kernel
theorem dL_isolate_9 : decode cL_isolate 9 = .ok (.goto 6, 3) := by decide +kernel
theorem dL_isolate_12 : decode cL_isolate 12 = .ok (.astore_n 3, 1) := by decide +kernel
theorem dL_isolate_13 : decode cL_isolate 13 = .ok (.iconst 1, 1) := by decide +kernel
theorem dL_isolate_14 : decode cL_isolate 14 = .ok (.ireturn, 1) := by decide +kernel
theorem dL_isolate_15 : decode cL_isolate 15 = .ok (.iconst 0, 1) := by decide +kernel
theorem dL_isolate_16 : decode cL_isolate 16 = .ok (.ireturn, 1) := by decide +kernel
set_option maxRecDepth 20000 in
theorem ggL_degree_X0_degree : GoodIn wsL_degree wsX0_degree := goodIn_ca (goodIn_r _ [6, 7, 8, 9, 10, 5, 11, 12, 13, 14, 15, 16, 17, 18, 19, 20, 21, 22, 23, 24, 25, 26, 27, 28, 29, 30] (by decide +kernel) (by decide +kernel)) (goodIn_sub (fun _ h => List.mem_cons_of_mem _ (List.mem_append_right _ h)) (by decide +kernel))
set_option maxRecDepth 20000 in
theorem gL_degree_X0_degree : GoodIn wsL_degree (wsV RL 32 RX0 yX0_degree wsX0_degree) := goodIn_app (goodIn_of _ (by decide +kernel)) ggL_degree_X0_degree
theorem dL_degree_0 : decode cL_degree 0 = .ok (.aload_n 2, 1) := by decide +kernel
theorem dL_degree_1 : decode cL_degree 1 = .ok (.iconst 0, 1) := by decide +kernel
theorem dL_degree_2 : decode cL_degree 2 = .ok (.aload_n 0, 1) := by decide +kernel
theorem dL_degree_3 : decode cL_degree 3 = .ok (.iload_n 1, 1) := by decide +kernel
theorem dL_degree_4 : decode cL_degree 4 = .ok (.invokevirtual 32, 3) := by decide +kernel
theorem dL_degree_7 : decode cL_degree 7 = .ok (.i2l, 1) := by decide +kernel
theorem dL_degree_8 : decode cL_degree 8 = .ok (.lastore, 1) := by decide +kernel
theorem dL_degree_9 : decode cL_degree 9 = .ok (.goto 6, 3) := by decide +kernel
theorem dL_degree_12 : decode cL_degree 12 = .ok (.astore_n 3, 1) := by decide +kernel
theorem dL_degree_13 : decode cL_degree 13 = .ok (.iconst 1, 1) := by decide +kernel
theorem dL_degree_14 : decode cL_degree 14 = .ok (.ireturn, 1) := by decide +kernel
theorem dL_degree_15 : decode cL_degree 15 = .ok (.iconst 0, 1) := by decide +kernel
theorem dL_degree_16 : decode cL_degree 16 = .ok (.ireturn, 1) := by decide +kernel
set_option maxRecDepth 20000 in
theorem ggL_neighbour_X0_neighbour : GoodIn wsL_neighbour wsX0_neighbour := goodIn_ca (goodIn_r _ [6, 7, 8, 9, 10, 11, 12, 13, 5, 14, 15, 16, 17, 18, 19, 20, 21, 22, 23, 24, 25, 26] (by decide +kernel) (by decide +kernel)) (goodIn_sub (fun _ h => List.mem_cons_of_mem _ (List.mem_append_right _ h)) (by decide +kernel))
set_option maxRecDepth 20000 in
theorem gL_neighbour_X0_neighbour : GoodIn wsL_neighbour (wsV RL 35 RX0 yX0_neighbour wsX0_neighbour) := goodIn_app (goodIn_of _ (by decide +kernel)) ggL_neighbour_X0_neighbour
theorem dL_neighbour_0 : decode cL_neighbour 0 = .ok (.aload_n 3, 1) := by decide +kernel
theorem dL_neighbour_1 : decode cL_neighbour 1 = .ok (.iconst 0, 1) := by decide +kernel
theorem dL_neighbour_2 : decode cL_neighbour 2 = .ok (.aload_n 0, 1) := by decide +kernel
theorem dL_neighbour_3 : decode cL_neighbour 3 = .ok (.iload_n 1, 1) := by decide +kernel
theorem dL_neighbour_4 : decode cL_neighbour 4 = .ok (.iload_n 2, 1) := by decide +kernel
theorem dL_neighbour_5 : decode cL_neighbour 5 = .ok (.invokevirtual 35, 3) := by decide +kernel
theorem dL_neighbour_8 : decode cL_neighbour 8 = .ok (.i2l, 1) := by decide +kernel
theorem dL_neighbour_9 : decode cL_neighbour 9 = .ok (.lastore, 1) := by decide +kernel
theorem dL_neighbour_10 : decode cL_neighbour 10 = .ok (.goto 7, 3) := by decide +kernel
theorem dL_neighbour_13 : decode cL_neighbour 13 = .ok (.astore 4, 2) := by decide +kernel
theorem dL_neighbour_15 : decode cL_neighbour 15 = .ok (.iconst 1, 1) := by decide +kernel
theorem dL_neighbour_16 : decode cL_neighbour 16 = .ok (.ireturn, 1) := by decide +kernel
theorem dL_neighbour_17 : decode cL_neighbour 17 = .ok (.iconst 0, 1) := by decide +kernel
theorem dL_neighbour_18 : decode cL_neighbour 18 = .ok (.ireturn, 1) := by decide +kernel
set_option maxRecDepth 20000 in
theorem ggL_areJoined_X0_areJoined : GoodIn wsL_areJoined wsX0_areJoined := goodIn_ca (goodIn_r _ [6, 7, 8, 9, 10, 5, 11, 12, 13, 14, 15, 16, 17, 18, 19, 20, 21, 22, 23, 24, 25, 26] (by decide +kernel) (by decide +kernel)) (goodIn_sub (fun _ h => List.mem_cons_of_mem _ (List.mem_append_right _ h)) (by decide +kernel))
set_option maxRecDepth 20000 in
theorem gL_areJoined_X0_areJoined : GoodIn wsL_areJoined (wsV RL 38 RX0 yX0_areJoined wsX0_areJoined) := goodIn_app (goodIn_of _ (by decide +kernel)) ggL_areJoined_X0_areJoined
theorem dL_areJoined_0 : decode cL_areJoined 0 = .ok (.aload_n 3, 1) := by decide +kernel
theorem dL_areJoined_1 : decode cL_areJoined 1 = .ok (.iconst 0, 1) := by decide +kernel
theorem dL_areJoined_2 : decode cL_areJoined 2 = .ok (.aload_n 0, 1) := by decide +kernel
theorem dL_areJoined_3 : decode cL_areJoined 3 = .ok (.iload_n 1, 1) := by decide +kernel
theorem dL_areJoined_4 : decode cL_areJoined 4 = .ok (.iload_n 2, 1) := by decide +kernel
theorem dL_areJoined_5 : decode cL_areJoined 5 = .ok (.invokevirtual 38, 3) := by decide +kernel
theorem dL_areJoined_8 : decode cL_areJoined 8 = .ok (.ifCond .eq 7, 3) := by decide +kernel
theorem dL_areJoined_11 : decode cL_areJoined 11 = .ok (.lconst 1, 1) := by decide +kernel
theorem dL_areJoined_12 : decode cL_areJoined 12 = .ok (.goto 4, 3) := by decide +kernel
theorem dL_areJoined_15 : decode cL_areJoined 15 = .ok (.lconst 0, 1) := by decide +kernel
theorem dL_areJoined_16 : decode cL_areJoined 16 = .ok (.lastore, 1) := by decide +kernel
theorem dL_areJoined_17 : decode cL_areJoined 17 = .ok (.goto 7, 3) := by decide +kernel
theorem dL_areJoined_20 : decode cL_areJoined 20 = .ok (.astore 4, 2) := by decide +kernel
theorem dL_areJoined_22 : decode cL_areJoined 22 = .ok (.iconst 1, 1) := by decide +kernel
theorem dL_areJoined_23 : decode cL_areJoined 23 = .ok (.ireturn, 1) := by decide +kernel
theorem dL_areJoined_24 : decode cL_areJoined 24 = .ok (.iconst 0, 1) := by decide +kernel
theorem dL_areJoined_25 : decode cL_areJoined 25 = .ok (.ireturn, 1) := by decide +kernel
set_option maxRecDepth 20000 in
theorem ggL_core_X0_core : GoodIn wsL_core wsX0_core := goodIn_ca (goodIn_r _ [6, 7, 8, 9, 10, 5, 11, 12, 13, 14, 15, 16, 17, 18, 19, 20] (by decide +kernel) (by decide +kernel)) (goodIn_sub (fun _ h => List.mem_cons_of_mem _ (List.mem_append_right _ h)) (by decide +kernel))
set_option maxRecDepth 20000 in
theorem gL_core_X0_core : GoodIn wsL_core (wsV RL 42 RX0 yX0_core wsX0_core) := goodIn_app (goodIn_of _ (by decide +kernel)) ggL_core_X0_core
theorem dL_core_0 : decode cL_core 0 = .ok (.aload_n 2, 1) := by decide +kernel
theorem dL_core_1 : decode cL_core 1 = .ok (.iconst 0, 1) := by decide +kernel
theorem dL_core_2 : decode cL_core 2 = .ok (.aload_n 0, 1) := by decide +kernel
theorem dL_core_3 : decode cL_core 3 = .ok (.iload_n 1, 1) := by decide +kernel
theorem dL_core_4 : decode cL_core 4 = .ok (.invokevirtual 42, 3) := by decide +kernel
theorem dL_core_7 : decode cL_core 7 = .ok (.i2l, 1) := by decide +kernel
theorem dL_core_8 : decode cL_core 8 = .ok (.lastore, 1) := by decide +kernel
theorem dL_core_9 : decode cL_core 9 = .ok (.goto 6, 3) := by decide +kernel
theorem dL_core_12 : decode cL_core 12 = .ok (.astore_n 3, 1) := by decide +kernel
theorem dL_core_13 : decode cL_core 13 = .ok (.iconst 1, 1) := by decide +kernel
theorem dL_core_14 : decode cL_core 14 = .ok (.ireturn, 1) := by decide +kernel
theorem dL_core_15 : decode cL_core 15 = .ok (.iconst 0, 1) := by decide +kernel
theorem dL_core_16 : decode cL_core 16 = .ok (.ireturn, 1) := by decide +kernel
set_option maxRecDepth 20000 in
theorem ggL_coreSize_X0_coreSize : GoodIn wsL_coreSize wsX0_coreSize := goodIn_ca (goodIn_r _ [6, 7, 8, 5, 9, 10, 11, 12, 13, 14, 15, 16, 17, 18, 19, 20, 21, 22, 23, 24, 25, 26, 27, 28, 29, 30, 31, 32, 33, 34, 35, 36, 37, 38, 39] (by decide +kernel) (by decide +kernel)) (goodIn_sub (fun _ h => List.mem_cons_of_mem _ (List.mem_append_right _ h)) (by decide +kernel))
set_option maxRecDepth 20000 in
theorem gL_coreSize_X0_coreSize : GoodIn wsL_coreSize (wsV RL 45 RX0 yX0_coreSize wsX0_coreSize) := goodIn_app (goodIn_of _ (by decide +kernel)) ggL_coreSize_X0_coreSize
theorem dL_coreSize_0 : decode cL_coreSize 0 = .ok (.aload_n 2, 1) := by decide +kernel
theorem dL_coreSize_1 : decode cL_coreSize 1 = .ok (.iconst 0, 1) := by decide +kernel
theorem dL_coreSize_2 : decode cL_coreSize 2 = .ok (.aload_n 0, 1) := by decide +kernel
theorem dL_coreSize_3 : decode cL_coreSize 3 = .ok (.iload_n 1, 1) := by decide +kernel
theorem dL_coreSize_4 : decode cL_coreSize 4 = .ok (.invokevirtual 45, 3) := by decide +kernel
theorem dL_coreSize_7 : decode cL_coreSize 7 = .ok (.i2l, 1) := by decide +kernel
theorem dL_coreSize_8 : decode cL_coreSize 8 = .ok (.lastore, 1) := by decide +kernel
theorem dL_coreSize_9 : decode cL_coreSize 9 = .ok (.goto 6, 3) := by decide +kernel
theorem dL_coreSize_12 : decode cL_coreSize 12 = .ok (.astore_n 3, 1) := by decide +kernel
theorem dL_coreSize_13 : decode cL_coreSize 13 = .ok (.iconst 1, 1) := by decide +kernel
theorem dL_coreSize_14 : decode cL_coreSize 14 = .ok (.ireturn, 1) := by decide +kernel
theorem dL_coreSize_15 : decode cL_coreSize 15 = .ok (.iconst 0, 1) := by decide +kernel
theorem dL_coreSize_16 : decode cL_coreSize 16 = .ok (.ireturn, 1) := by decide +kernel
set_option maxRecDepth 20000 in
theorem ggL_community_X0_community : GoodIn wsL_community wsX0_community := goodIn_ca (goodIn_ca (goodIn_r _ [7, 8, 9, 10, 6, 11, 12, 13, 14, 15, 16, 17, 18, 19, 20, 21, 22, 23, 24, 25, 26, 27, 28, 29, 30, 31, 32, 33, 34, 35, 36, 37, 38, 39, 40, 41, 42, 43, 44, 45, 46, 47, 48, 49, 50, 51, 52, 53, 54] (by decide +kernel) (by decide +kernel)) (goodIn_sub (fun _ h => List.mem_cons_of_mem _ (List.mem_append_left _ (List.mem_append_right _ h))) (by decide +kernel))) (goodIn_sub (fun _ h => List.mem_cons_of_mem _ (List.mem_append_right _ h)) (by decide +kernel))
set_option maxRecDepth 20000 in
theorem gL_community_X0_community : GoodIn wsL_community (wsV RL 48 RX0 yX0_community wsX0_community) := goodIn_app (goodIn_of _ (by decide +kernel)) ggL_community_X0_community
theorem dL_community_0 : decode cL_community 0 = .ok (.aload_n 3, 1) := by decide +kernel
theorem dL_community_1 : decode cL_community 1 = .ok (.iconst 0, 1) := by decide +kernel
theorem dL_community_2 : decode cL_community 2 = .ok (.aload_n 0, 1) := by decide +kernel
theorem dL_community_3 : decode cL_community 3 = .ok (.iload_n 1, 1) := by decide +kernel
theorem dL_community_4 : decode cL_community 4 = .ok (.iload_n 2, 1) := by decide +kernel
theorem dL_community_5 : decode cL_community 5 = .ok (.invokevirtual 48, 3) := by decide +kernel
theorem dL_community_8 : decode cL_community 8 = .ok (.i2l, 1) := by decide +kernel
theorem dL_community_9 : decode cL_community 9 = .ok (.lastore, 1) := by decide +kernel
theorem dL_community_10 : decode cL_community 10 = .ok (.goto 11, 3) := by decide +kernel
theorem dL_community_13 : decode cL_community 13 = .ok (.astore 4, 2) := by decide +kernel
theorem dL_community_15 : decode cL_community 15 = .ok (.iconst 1, 1) := by decide +kernel
theorem dL_community_16 : decode cL_community 16 = .ok (.ireturn, 1) := by decide +kernel
theorem dL_community_17 : decode cL_community 17 = .ok (.astore 4, 2) := by decide +kernel
theorem dL_community_19 : decode cL_community 19 = .ok (.iconst 2, 1) := by decide +kernel
theorem dL_community_20 : decode cL_community 20 = .ok (.ireturn, 1) := by decide +kernel
theorem dL_community_21 : decode cL_community 21 = .ok (.iconst 0, 1) := by decide +kernel
theorem dL_community_22 : decode cL_community 22 = .ok (.ireturn, 1) := by decide +kernel
set_option maxRecDepth 20000 in
theorem ggL_communities_X0_communities : GoodIn wsL_communities wsX0_communities := goodIn_ca (goodIn_r _ [6, 7, 8, 5, 9, 10, 11, 12, 13, 14, 15, 16, 17, 18, 19, 20, 21, 22, 23, 24, 25, 26, 27, 28, 29, 30, 31, 32, 33, 34, 35, 36, 37, 38, 39, 40, 41] (by decide +kernel) (by decide +kernel)) (goodIn_sub (fun _ h => List.mem_cons_of_mem _ (List.mem_append_right _ h)) (by decide +kernel))
set_option maxRecDepth 20000 in
theorem gL_communities_X0_communities : GoodIn wsL_communities (wsV RL 51 RX0 yX0_communities wsX0_communities) := goodIn_app (goodIn_of _ (by decide +kernel)) ggL_communities_X0_communities
theorem dL_communities_0 : decode cL_communities 0 = .ok (.aload_n 2, 1) := by decide +kernel
theorem dL_communities_1 : decode cL_communities 1 = .ok (.iconst 0, 1) := by decide +kernel
theorem dL_communities_2 : decode cL_communities 2 = .ok (.aload_n 0, 1) := by decide +kernel
theorem dL_communities_3 : decode cL_communities 3 = .ok (.iload_n 1, 1) := by decide +kernel
theorem dL_communities_4 : decode cL_communities 4 = .ok (.invokevirtual 51, 3) := by decide +kernel
theorem dL_communities_7 : decode cL_communities 7 = .ok (.i2l, 1) := by decide +kernel
theorem dL_communities_8 : decode cL_communities 8 = .ok (.lastore, 1) := by decide +kernel
theorem dL_communities_9 : decode cL_communities 9 = .ok (.goto 6, 3) := by decide +kernel
theorem dL_communities_12 : decode cL_communities 12 = .ok (.astore_n 3, 1) := by decide +kernel
theorem dL_communities_13 : decode cL_communities 13 = .ok (.iconst 1, 1) := by decide +kernel
theorem dL_communities_14 : decode cL_communities 14 = .ok (.ireturn, 1) := by decide +kernel
theorem dL_communities_15 : decode cL_communities 15 = .ok (.iconst 0, 1) := by decide +kernel
theorem dL_communities_16 : decode cL_communities 16 = .ok (.ireturn, 1) := by decide +kernel
set_option maxRecDepth 20000 in
theorem ggL_together_X0_together : GoodIn wsL_together wsX0_together := goodIn_ca (goodIn_ca (goodIn_r _ [7, 8, 9, 10, 11, 12, 13, 14, 15, 16, 17, 6, 18, 19, 20, 21, 22, 23, 24, 25, 26, 27, 28, 29, 30, 31, 32, 33, 34, 35, 36, 37, 38, 39, 40, 41, 42, 43, 44, 45] (by decide +kernel) (by decide +kernel)) (goodIn_sub (fun _ h => List.mem_cons_of_mem _ (List.mem_append_left _ (List.mem_append_right _ h))) (by decide +kernel))) (goodIn_sub (fun _ h => List.mem_cons_of_mem _ (List.mem_append_right _ h)) (by decide +kernel))
set_option maxRecDepth 20000 in
theorem gL_together_X0_together : GoodIn wsL_together (wsV RL 54 RX0 yX0_together wsX0_together) := goodIn_app (goodIn_of _ (by decide +kernel)) ggL_together_X0_together
theorem dL_together_0 : decode cL_together 0 = .ok (.aload_n 3, 1) := by decide +kernel
theorem dL_together_1 : decode cL_together 1 = .ok (.iconst 0, 1) := by decide +kernel
theorem dL_together_2 : decode cL_together 2 = .ok (.aload_n 0, 1) := by decide +kernel
theorem dL_together_3 : decode cL_together 3 = .ok (.iload_n 1, 1) := by decide +kernel
theorem dL_together_4 : decode cL_together 4 = .ok (.iload_n 2, 1) := by decide +kernel
theorem dL_together_5 : decode cL_together 5 = .ok (.invokevirtual 54, 3) := by decide +kernel
theorem dL_together_8 : decode cL_together 8 = .ok (.i2l, 1) := by decide +kernel
theorem dL_together_9 : decode cL_together 9 = .ok (.lastore, 1) := by decide +kernel
theorem dL_together_10 : decode cL_together 10 = .ok (.goto 11, 3) := by decide +kernel
theorem dL_together_13 : decode cL_together 13 = .ok (.astore 4, 2) := by decide +kernel
theorem dL_together_15 : decode cL_together 15 = .ok (.iconst 1, 1) := by decide +kernel
theorem dL_together_16 : decode cL_together 16 = .ok (.ireturn, 1) := by decide +kernel
theorem dL_together_17 : decode cL_together 17 = .ok (.astore 4, 2) := by decide +kernel
theorem dL_together_19 : decode cL_together 19 = .ok (.iconst 2, 1) := by decide +kernel
theorem dL_together_20 : decode cL_together 20 = .ok (.ireturn, 1) := by decide +kernel
theorem dL_together_21 : decode cL_together 21 = .ok (.iconst 0, 1) := by decide +kernel
theorem dL_together_22 : decode cL_together 22 = .ok (.ireturn, 1) := by decide +kernel
set_option maxRecDepth 20000 in
theorem ggL_peeled_X0_peeled : GoodIn wsL_peeled wsX0_peeled := goodIn_ca (goodIn_r _ [6, 7, 8, 9, 10, 11, 12, 5, 13, 14, 15, 16, 17, 18, 19, 20, 21, 22, 23, 24, 25, 26, 27, 28, 29, 30, 31, 32, 33, 34, 35, 36, 37, 38, 39, 40, 41, 42, 43] (by decide +kernel) (by decide +kernel)) (goodIn_sub (fun _ h => List.mem_cons_of_mem _ (List.mem_append_right _ h)) (by decide +kernel))
set_option maxRecDepth 20000 in
theorem gL_peeled_X0_peeled : GoodIn wsL_peeled (wsV RL 57 RX0 yX0_peeled wsX0_peeled) := goodIn_app (goodIn_of _ (by decide +kernel)) ggL_peeled_X0_peeled
theorem dL_peeled_0 : decode cL_peeled 0 = .ok (.aload_n 2, 1) := by decide +kernel
theorem dL_peeled_1 : decode cL_peeled 1 = .ok (.iconst 0, 1) := by decide +kernel
theorem dL_peeled_2 : decode cL_peeled 2 = .ok (.aload_n 0, 1) := by decide +kernel
theorem dL_peeled_3 : decode cL_peeled 3 = .ok (.iload_n 1, 1) := by decide +kernel
theorem dL_peeled_4 : decode cL_peeled 4 = .ok (.invokevirtual 57, 3) := by decide +kernel
theorem dL_peeled_7 : decode cL_peeled 7 = .ok (.i2l, 1) := by decide +kernel
theorem dL_peeled_8 : decode cL_peeled 8 = .ok (.lastore, 1) := by decide +kernel
theorem dL_peeled_9 : decode cL_peeled 9 = .ok (.goto 6, 3) := by decide +kernel
theorem dL_peeled_12 : decode cL_peeled 12 = .ok (.astore_n 3, 1) := by decide +kernel
theorem dL_peeled_13 : decode cL_peeled 13 = .ok (.iconst 1, 1) := by decide +kernel
theorem dL_peeled_14 : decode cL_peeled 14 = .ok (.ireturn, 1) := by decide +kernel
theorem dL_peeled_15 : decode cL_peeled 15 = .ok (.iconst 0, 1) := by decide +kernel
theorem dL_peeled_16 : decode cL_peeled 16 = .ok (.ireturn, 1) := by decide +kernel
set_option maxRecDepth 20000 in
theorem ggL_isDense_X0_isDense : GoodIn wsL_isDense wsX0_isDense := goodIn_ca (goodIn_r _ [6, 7, 8, 9, 5, 10, 11, 12, 13, 14, 15, 16, 17, 18, 19, 20, 21, 22, 23, 24, 25, 26, 27, 28, 29, 30, 31, 32, 33, 34, 35, 36, 37, 38, 39, 40, 41, 42, 43, 44, 45, 46, 47, 48, 49, 50, 51, 52, 53, 54, 55, 56] (by decide +kernel) (by decide +kernel)) (goodIn_sub (fun _ h => List.mem_cons_of_mem _ (List.mem_append_right _ h)) (by decide +kernel))
set_option maxRecDepth 20000 in
theorem gL_isDense_X0_isDense : GoodIn wsL_isDense (wsV RL 60 RX0 yX0_isDense wsX0_isDense) := goodIn_app (goodIn_of _ (by decide +kernel)) ggL_isDense_X0_isDense
theorem dL_isDense_0 : decode cL_isDense 0 = .ok (.aload_n 2, 1) := by decide +kernel
theorem dL_isDense_1 : decode cL_isDense 1 = .ok (.iconst 0, 1) := by decide +kernel
theorem dL_isDense_2 : decode cL_isDense 2 = .ok (.aload_n 0, 1) := by decide +kernel
theorem dL_isDense_3 : decode cL_isDense 3 = .ok (.iload_n 1, 1) := by decide +kernel
theorem dL_isDense_4 : decode cL_isDense 4 = .ok (.invokevirtual 60, 3) := by decide +kernel
theorem dL_isDense_7 : decode cL_isDense 7 = .ok (.ifCond .eq 7, 3) := by decide +kernel
theorem dL_isDense_10 : decode cL_isDense 10 = .ok (.lconst 1, 1) := by decide +kernel
theorem dL_isDense_11 : decode cL_isDense 11 = .ok (.goto 4, 3) := by decide +kernel
theorem dL_isDense_14 : decode cL_isDense 14 = .ok (.lconst 0, 1) := by decide +kernel
theorem dL_isDense_15 : decode cL_isDense 15 = .ok (.lastore, 1) := by decide +kernel
theorem dL_isDense_16 : decode cL_isDense 16 = .ok (.goto 6, 3) := by decide +kernel
theorem dL_isDense_19 : decode cL_isDense 19 = .ok (.astore_n 3, 1) := by decide +kernel
theorem dL_isDense_20 : decode cL_isDense 20 = .ok (.iconst 1, 1) := by decide +kernel
theorem dL_isDense_21 : decode cL_isDense 21 = .ok (.ireturn, 1) := by decide +kernel
theorem dL_isDense_22 : decode cL_isDense 22 = .ok (.iconst 0, 1) := by decide +kernel
theorem dL_isDense_23 : decode cL_isDense 23 = .ok (.ireturn, 1) := by decide +kernel
set_option maxRecDepth 20000 in
theorem ggL_support_X0_support : GoodIn wsL_support wsX0_support := goodIn_ca (goodIn_ca (goodIn_r _ [7, 8, 9, 10, 11, 6, 12, 13, 14, 15, 16, 17, 18, 19, 20, 21, 22, 23, 24, 25, 26, 27, 28, 29, 30, 31, 32, 33, 34, 35, 36, 37, 38, 39, 40, 41, 42, 43] (by decide +kernel) (by decide +kernel)) (goodIn_sub (fun _ h => List.mem_cons_of_mem _ (List.mem_append_left _ (List.mem_append_right _ h))) (by decide +kernel))) (goodIn_sub (fun _ h => List.mem_cons_of_mem _ (List.mem_append_right _ h)) (by decide +kernel))
set_option maxRecDepth 20000 in
theorem gL_support_X0_support : GoodIn wsL_support (wsV RL 64 RX0 yX0_support wsX0_support) := goodIn_app (goodIn_of _ (by decide +kernel)) ggL_support_X0_support
theorem dL_support_0 : decode cL_support 0 = .ok (.aload_n 3, 1) := by decide +kernel
theorem dL_support_1 : decode cL_support 1 = .ok (.iconst 0, 1) := by decide +kernel
theorem dL_support_2 : decode cL_support 2 = .ok (.aload_n 0, 1) := by decide +kernel
theorem dL_support_3 : decode cL_support 3 = .ok (.iload_n 1, 1) := by decide +kernel
theorem dL_support_4 : decode cL_support 4 = .ok (.iload_n 2, 1) := by decide +kernel
theorem dL_support_5 : decode cL_support 5 = .ok (.invokevirtual 64, 3) := by decide +kernel
theorem dL_support_8 : decode cL_support 8 = .ok (.i2l, 1) := by decide +kernel
theorem dL_support_9 : decode cL_support 9 = .ok (.lastore, 1) := by decide +kernel
theorem dL_support_10 : decode cL_support 10 = .ok (.goto 11, 3) := by decide +kernel
theorem dL_support_13 : decode cL_support 13 = .ok (.astore 4, 2) := by decide +kernel
theorem dL_support_15 : decode cL_support 15 = .ok (.iconst 1, 1) := by decide +kernel
theorem dL_support_16 : decode cL_support 16 = .ok (.ireturn, 1) := by decide +kernel
theorem dL_support_17 : decode cL_support 17 = .ok (.astore 4, 2) := by decide +kernel
theorem dL_support_19 : decode cL_support 19 = .ok (.iconst 2, 1) := by decide +kernel
theorem dL_support_20 : decode cL_support 20 = .ok (.ireturn, 1) := by decide +kernel
theorem dL_support_21 : decode cL_support 21 = .ok (.iconst 0, 1) := by decide +kernel
theorem dL_support_22 : decode cL_support 22 = .ok (.ireturn, 1) := by decide +kernel
set_option maxRecDepth 20000 in
theorem ggL_truss_X0_truss : GoodIn wsL_truss wsX0_truss := goodIn_ca (goodIn_ca (goodIn_r _ [7, 8, 9, 10, 11, 6, 12, 13, 14, 15, 16, 17, 18, 19, 20, 21, 22, 23, 24, 25, 26, 27, 28, 29, 30, 31, 32, 33, 34, 35, 36, 37, 38, 39, 40, 41, 42, 43, 44, 45, 46, 47, 48, 49, 50, 51, 52, 53, 54, 55, 56, 57, 58, 59] (by decide +kernel) (by decide +kernel)) (goodIn_sub (fun _ h => List.mem_cons_of_mem _ (List.mem_append_left _ (List.mem_append_right _ h))) (by decide +kernel))) (goodIn_sub (fun _ h => List.mem_cons_of_mem _ (List.mem_append_right _ h)) (by decide +kernel))
set_option maxRecDepth 20000 in
theorem gL_truss_X0_truss : GoodIn wsL_truss (wsV RL 67 RX0 yX0_truss wsX0_truss) := goodIn_app (goodIn_of _ (by decide +kernel)) ggL_truss_X0_truss
theorem dL_truss_0 : decode cL_truss 0 = .ok (.aload_n 3, 1) := by decide +kernel
theorem dL_truss_1 : decode cL_truss 1 = .ok (.iconst 0, 1) := by decide +kernel
theorem dL_truss_2 : decode cL_truss 2 = .ok (.aload_n 0, 1) := by decide +kernel
theorem dL_truss_3 : decode cL_truss 3 = .ok (.iload_n 1, 1) := by decide +kernel
theorem dL_truss_4 : decode cL_truss 4 = .ok (.iload_n 2, 1) := by decide +kernel
theorem dL_truss_5 : decode cL_truss 5 = .ok (.invokevirtual 67, 3) := by decide +kernel
theorem dL_truss_8 : decode cL_truss 8 = .ok (.i2l, 1) := by decide +kernel
theorem dL_truss_9 : decode cL_truss 9 = .ok (.lastore, 1) := by decide +kernel
theorem dL_truss_10 : decode cL_truss 10 = .ok (.goto 11, 3) := by decide +kernel
theorem dL_truss_13 : decode cL_truss 13 = .ok (.astore 4, 2) := by decide +kernel
theorem dL_truss_15 : decode cL_truss 15 = .ok (.iconst 1, 1) := by decide +kernel
theorem dL_truss_16 : decode cL_truss 16 = .ok (.ireturn, 1) := by decide +kernel
theorem dL_truss_17 : decode cL_truss 17 = .ok (.astore 4, 2) := by decide +kernel
theorem dL_truss_19 : decode cL_truss 19 = .ok (.iconst 2, 1) := by decide +kernel
theorem dL_truss_20 : decode cL_truss 20 = .ok (.ireturn, 1) := by decide +kernel
theorem dL_truss_21 : decode cL_truss 21 = .ok (.iconst 0, 1) := by decide +kernel
theorem dL_truss_22 : decode cL_truss 22 = .ok (.ireturn, 1) := by decide +kernel
set_option maxRecDepth 20000 in
theorem ggL_trussSize_X0_trussSize : GoodIn wsL_trussSize wsX0_trussSize := goodIn_ca (goodIn_r _ [6, 7, 8, 9, 10, 11, 12, 13, 5, 14, 15, 16, 17, 18, 19, 20, 21, 22, 23, 24, 25, 26, 27, 28, 29, 30, 31, 32, 33, 34, 35, 36, 37, 38, 39, 40, 41, 42, 43, 44, 45, 46, 47, 48] (by decide +kernel) (by decide +kernel)) (goodIn_sub (fun _ h => List.mem_cons_of_mem _ (List.mem_append_right _ h)) (by decide +kernel))
set_option maxRecDepth 20000 in
theorem gL_trussSize_X0_trussSize : GoodIn wsL_trussSize (wsV RL 70 RX0 yX0_trussSize wsX0_trussSize) := goodIn_app (goodIn_of _ (by decide +kernel)) ggL_trussSize_X0_trussSize
theorem dL_trussSize_0 : decode cL_trussSize 0 = .ok (.aload_n 2, 1) := by decide +kernel
theorem dL_trussSize_1 : decode cL_trussSize 1 = .ok (.iconst 0, 1) := by decide +kernel
theorem dL_trussSize_2 : decode cL_trussSize 2 = .ok (.aload_n 0, 1) := by decide +kernel
theorem dL_trussSize_3 : decode cL_trussSize 3 = .ok (.iload_n 1, 1) := by decide +kernel
theorem dL_trussSize_4 : decode cL_trussSize 4 = .ok (.invokevirtual 70, 3) := by decide +kernel
theorem dL_trussSize_7 : decode cL_trussSize 7 = .ok (.i2l, 1) := by decide +kernel
theorem dL_trussSize_8 : decode cL_trussSize 8 = .ok (.lastore, 1) := by decide +kernel
theorem dL_trussSize_9 : decode cL_trussSize 9 = .ok (.goto 6, 3) := by decide +kernel
theorem dL_trussSize_12 : decode cL_trussSize 12 = .ok (.astore_n 3, 1) := by decide +kernel
theorem dL_trussSize_13 : decode cL_trussSize 13 = .ok (.iconst 1, 1) := by decide +kernel
theorem dL_trussSize_14 : decode cL_trussSize 14 = .ok (.ireturn, 1) := by decide +kernel
theorem dL_trussSize_15 : decode cL_trussSize 15 = .ok (.iconst 0, 1) := by decide +kernel
theorem dL_trussSize_16 : decode cL_trussSize 16 = .ok (.ireturn, 1) := by decide +kernel
