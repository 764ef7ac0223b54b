theorem dX0_init_0 : decode cX0_init 0 = .ok (.aload_n 0, 1) := by decide +kernel
theorem dX0_init_1 : decode cX0_init 1 = .ok (.invokespecial 3, 3) := by decide +kernel
theorem dX0_init_4 : decode cX0_init 4 = .ok (.aload_n 0, 1) := by decide +kernel
theorem dX0_init_5 : decode cX0_init 5 = .ok (.bipush 20, 2) := by decide +kernel
theorem dX0_init_7 : decode cX0_init 7 = .ok (.newarray .int, 2) := by decide +kernel
theorem dX0_init_9 : decode cX0_init 9 = .ok (.putfield 9, 3) := by decide +kernel
theorem dX0_init_12 : decode cX0_init 12 = .ok (.aload_n 0, 1) := by decide +kernel
theorem dX0_init_13 : decode cX0_init 13 = .ok (.bipush 20, 2) := by decide +kernel
theorem dX0_init_15 : decode cX0_init 15 = .ok (.newarray .int, 2) := by decide +kernel
theorem dX0_init_17 : decode cX0_init 17 = .ok (.putfield 13, 3) := by decide +kernel
theorem dX0_init_20 : decode cX0_init 20 = .ok (.aload_n 0, 1) := by decide +kernel
theorem dX0_init_21 : decode cX0_init 21 = .ok (.bipush 20, 2) := by decide +kernel
theorem dX0_init_23 : decode cX0_init 23 = .ok (.newarray .int, 2) := by decide +kernel
theorem dX0_init_25 : decode cX0_init 25 = .ok (.putfield 16, 3) := by decide +kernel
theorem dX0_init_28 : decode cX0_init 28 = .ok (.aload_n 0, 1) := by decide +kernel
theorem dX0_init_29 : decode cX0_init 29 = .ok (.iconst 0, 1) := by decide +kernel
theorem dX0_init_30 : decode cX0_init 30 = .ok (.putfield 19, 3) := by decide +kernel
theorem dX0_init_33 : decode cX0_init 33 = .ok (.aload_n 0, 1) := by decide +kernel
theorem dX0_init_34 : decode cX0_init 34 = .ok (.iconst 0, 1) := by decide +kernel
theorem dX0_init_35 : decode cX0_init 35 = .ok (.putfield 23, 3) := by decide +kernel
theorem dX0_init_38 : decode cX0_init 38 = .ok (.aload_n 0, 1) := by decide +kernel
theorem dX0_init_39 : decode cX0_init 39 = .ok (.iconst 0, 1) := by decide +kernel
theorem dX0_init_40 : decode cX0_init 40 = .ok (.putfield 26, 3) := by decide +kernel
theorem dX0_init_43 : decode cX0_init 43 = .ok (.return_, 1) := by decide +kernel
theorem dX0_addNode_0 : decode cX0_addNode 0 = .ok (.aload_n 0, 1) := by decide +kernel
theorem dX0_addNode_1 : decode cX0_addNode 1 = .ok (.getfield 19, 3) := by decide +kernel
theorem dX0_addNode_4 : decode cX0_addNode 4 = .ok (.bipush 20, 2) := by decide +kernel
theorem dX0_addNode_6 : decode cX0_addNode 6 = .ok (.if_icmp .lt 13, 3) := by decide +kernel
theorem dX0_addNode_9 : decode cX0_addNode 9 = .ok (.new 29, 3) := by decide +kernel
theorem dX0_addNode_12 : decode cX0_addNode 12 = .ok (.dup, 1) := by decide +kernel
theorem dX0_addNode_13 : decode cX0_addNode 13 = .ok (.ldc 31, 2) := by decide +kernel
theorem dX0_addNode_15 : decode cX0_addNode 15 = .ok (.invokespecial 33, 3) := by decide +kernel
theorem dX0_addNode_18 : decode cX0_addNode 18 = .ok (.athrow, 1) := by decide +kernel
theorem dX0_addNode_19 : decode cX0_addNode 19 = .ok (.aload_n 0, 1) := by decide +kernel
theorem dX0_addNode_20 : decode cX0_addNode 20 = .ok (.getfield 19, 3) := by decide +kernel
theorem dX0_addNode_23 : decode cX0_addNode 23 = .ok (.istore_n 1, 1) := by decide +kernel
theorem dX0_addNode_24 : decode cX0_addNode 24 = .ok (.aload_n 0, 1) := by decide +kernel
theorem dX0_addNode_25 : decode cX0_addNode 25 = .ok (.dup, 1) := by decide +kernel
theorem dX0_addNode_26 : decode cX0_addNode 26 = .ok (.getfield 19, 3) := by decide +kernel
theorem dX0_addNode_29 : decode cX0_addNode 29 = .ok (.iconst 1, 1) := by decide +kernel
theorem dX0_addNode_30 : decode cX0_addNode 30 = .ok (.iadd, 1) := by decide +kernel
theorem dX0_addNode_31 : decode cX0_addNode 31 = .ok (.putfield 19, 3) := by decide +kernel
theorem dX0_addNode_34 : decode cX0_addNode 34 = .ok (.iload_n 1, 1) := by decide +kernel
theorem dX0_addNode_35 : decode cX0_addNode 35 = .ok (.ireturn, 1) := by decide +kernel
set_option maxRecDepth 20000 in
theorem ggX0_join_X0_checkPair : GoodIn wsX0_join wsX0_checkPair := goodIn_ca (goodIn_ca (goodIn_r _ [9, 10, 11, 12, 13, 14, 8, 15, 16, 17, 18, 75, 76, 77, 78, 79, 80] (by decide +kernel) (by decide +kernel)) (goodIn_sub (fun _ h => List.mem_cons_of_mem _ (List.mem_append_left _ (List.mem_append_right _ h))) (by decide +kernel))) (goodIn_sub (fun _ h => List.mem_cons_of_mem _ (List.mem_append_right _ h)) (by decide +kernel))
set_option maxRecDepth 20000 in
theorem gX0_join_X0_checkPair : GoodIn wsX0_join (wsV RX0 36 RX0 yX0_checkPair wsX0_checkPair) := goodIn_app (goodIn_of _ (by decide +kernel)) ggX0_join_X0_checkPair
set_option maxRecDepth 20000 in
theorem ggX0_join_X0_contains : GoodIn wsX0_join wsX0_contains := goodIn_r _ [21, 22, 23, 8, 24] (by decide +kernel) (by decide +kernel)
set_option maxRecDepth 20000 in
theorem gX0_join_X0_contains : GoodIn wsX0_join (va_wsS RX0 40 yX0_contains wsX0_contains) := goodIn_app (goodIn_of _ (by decide +kernel)) ggX0_join_X0_contains
set_option maxRecDepth 20000 in
theorem ggX0_join_X0_with : GoodIn wsX0_join wsX0_with := goodIn_r _ [27, 22, 23, 8, 24] (by decide +kernel) (by decide +kernel)
set_option maxRecDepth 20000 in
theorem gX0_join_X0_with : GoodIn wsX0_join (va_wsS RX0 46 yX0_with wsX0_with) := goodIn_app (goodIn_of _ (by decide +kernel)) ggX0_join_X0_with
set_option maxRecDepth 20000 in
theorem ggX0_join_X0_raiseCores : GoodIn wsX0_join wsX0_raiseCores := goodIn_r _ [31, 32, 33, 34, 35, 36, 37, 38, 39, 8, 40, 22, 23, 24, 25, 26, 27, 41, 42, 43, 44, 45, 46, 47, 48, 18, 49, 50, 51, 52, 3, 19, 20, 21, 53, 54, 55, 56, 57, 58, 59, 60, 61, 62, 63, 64, 65, 66, 67, 68, 69, 70, 71, 72, 73, 74, 75, 76, 77, 78, 79, 80] (by decide +kernel) (by decide +kernel)
set_option maxRecDepth 20000 in
theorem gX0_join_X0_raiseCores : GoodIn wsX0_join (wsV RX0 50 RX0 yX0_raiseCores wsX0_raiseCores) := goodIn_app (goodIn_of _ (by decide +kernel)) ggX0_join_X0_raiseCores
theorem dX0_join_0 : decode cX0_join 0 = .ok (.aload_n 0, 1) := by decide +kernel
theorem dX0_join_1 : decode cX0_join 1 = .ok (.iload_n 1, 1) := by decide +kernel
theorem dX0_join_2 : decode cX0_join 2 = .ok (.iload_n 2, 1) := by decide +kernel
theorem dX0_join_3 : decode cX0_join 3 = .ok (.invokevirtual 36, 3) := by decide +kernel
theorem dX0_join_6 : decode cX0_join 6 = .ok (.aload_n 0, 1) := by decide +kernel
theorem dX0_join_7 : decode cX0_join 7 = .ok (.getfield 9, 3) := by decide +kernel
theorem dX0_join_10 : decode cX0_join 10 = .ok (.iload_n 1, 1) := by decide +kernel
theorem dX0_join_11 : decode cX0_join 11 = .ok (.iaload, 1) := by decide +kernel
theorem dX0_join_12 : decode cX0_join 12 = .ok (.iload_n 2, 1) := by decide +kernel
theorem dX0_join_13 : decode cX0_join 13 = .ok (.invokestatic 40, 3) := by decide +kernel
theorem dX0_join_16 : decode cX0_join 16 = .ok (.ifCond .eq 13, 3) := by decide +kernel
theorem dX0_join_19 : decode cX0_join 19 = .ok (.new 29, 3) := by decide +kernel
theorem dX0_join_22 : decode cX0_join 22 = .ok (.dup, 1) := by decide +kernel
theorem dX0_join_23 : decode cX0_join 23 = .ok (.ldc 44, 2) := by decide +kernel
theorem dX0_join_25 : decode cX0_join 25 = .ok (.invokespecial 33, 3) := by decide +kernel
theorem dX0_join_28 : decode cX0_join 28 = .ok (.athrow, 1) := by decide +kernel
theorem dX0_join_29 : decode cX0_join 29 = .ok (.aload_n 0, 1) := by decide +kernel
theorem dX0_join_30 : decode cX0_join 30 = .ok (.getfield 9, 3) := by decide +kernel
theorem dX0_join_33 : decode cX0_join 33 = .ok (.iload_n 1, 1) := by decide +kernel
theorem dX0_join_34 : decode cX0_join 34 = .ok (.aload_n 0, 1) := by decide +kernel
theorem dX0_join_35 : decode cX0_join 35 = .ok (.getfield 9, 3) := by decide +kernel
theorem dX0_join_38 : decode cX0_join 38 = .ok (.iload_n 1, 1) := by decide +kernel
theorem dX0_join_39 : decode cX0_join 39 = .ok (.iaload, 1) := by decide +kernel
theorem dX0_join_40 : decode cX0_join 40 = .ok (.iload_n 2, 1) := by decide +kernel
theorem dX0_join_41 : decode cX0_join 41 = .ok (.invokestatic 46, 3) := by decide +kernel
theorem dX0_join_44 : decode cX0_join 44 = .ok (.iastore, 1) := by decide +kernel
theorem dX0_join_45 : decode cX0_join 45 = .ok (.aload_n 0, 1) := by decide +kernel
theorem dX0_join_46 : decode cX0_join 46 = .ok (.getfield 9, 3) := by decide +kernel
theorem dX0_join_49 : decode cX0_join 49 = .ok (.iload_n 2, 1) := by decide +kernel
theorem dX0_join_50 : decode cX0_join 50 = .ok (.aload_n 0, 1) := by decide +kernel
theorem dX0_join_51 : decode cX0_join 51 = .ok (.getfield 9, 3) := by decide +kernel
theorem dX0_join_54 : decode cX0_join 54 = .ok (.iload_n 2, 1) := by decide +kernel
theorem dX0_join_55 : decode cX0_join 55 = .ok (.iaload, 1) := by decide +kernel
theorem dX0_join_56 : decode cX0_join 56 = .ok (.iload_n 1, 1) := by decide +kernel
theorem dX0_join_57 : decode cX0_join 57 = .ok (.invokestatic 46, 3) := by decide +kernel
theorem dX0_join_60 : decode cX0_join 60 = .ok (.iastore, 1) := by decide +kernel
theorem dX0_join_61 : decode cX0_join 61 = .ok (.aload_n 0, 1) := by decide +kernel
theorem dX0_join_62 : decode cX0_join 62 = .ok (.dup, 1) := by decide +kernel
theorem dX0_join_63 : decode cX0_join 63 = .ok (.getfield 23, 3) := by decide +kernel
theorem dX0_join_66 : decode cX0_join 66 = .ok (.iconst 1, 1) := by decide +kernel
theorem dX0_join_67 : decode cX0_join 67 = .ok (.iadd, 1) := by decide +kernel
theorem dX0_join_68 : decode cX0_join 68 = .ok (.putfield 23, 3) := by decide +kernel
theorem dX0_join_71 : decode cX0_join 71 = .ok (.aload_n 0, 1) := by decide +kernel
theorem dX0_join_72 : decode cX0_join 72 = .ok (.iload_n 1, 1) := by decide +kernel
theorem dX0_join_73 : decode cX0_join 73 = .ok (.iload_n 2, 1) := by decide +kernel
theorem dX0_join_74 : decode cX0_join 74 = .ok (.invokevirtual 50, 3) := by decide +kernel
theorem dX0_join_77 : decode cX0_join 77 = .ok (.ireturn, 1) := by decide +kernel
set_option maxRecDepth 20000 in
theorem ggX0_part_X0_checkPair : GoodIn wsX0_part wsX0_checkPair := goodIn_ca (goodIn_ca (goodIn_r _ [5, 6, 7, 8, 9, 10, 4, 11, 12, 13, 14, 79, 80, 81, 82, 83, 84] (by decide +kernel) (by decide +kernel)) (goodIn_sub (fun _ h => List.mem_cons_of_mem _ (List.mem_append_left _ (List.mem_append_left _ (List.mem_append_right _ h)))) (by decide +kernel))) (goodIn_sub (fun _ h => List.mem_cons_of_mem _ (List.mem_append_left _ (List.mem_append_right _ h))) (by decide +kernel))
set_option maxRecDepth 20000 in
theorem gX0_part_X0_checkPair : GoodIn wsX0_part (wsV RX0 36 RX0 yX0_checkPair wsX0_checkPair) := goodIn_app (goodIn_of _ (by decide +kernel)) ggX0_part_X0_checkPair
set_option maxRecDepth 20000 in
theorem ggX0_part_X0_checkEdge : GoodIn wsX0_part wsX0_checkEdge := goodIn_ca (goodIn_r _ [18, 19, 20, 21, 22, 23, 4, 24, 25, 26, 27, 79, 80, 81, 82, 83, 84] (by decide +kernel) (by decide +kernel)) (goodIn_sub (fun _ h => List.mem_cons_of_mem _ (List.mem_append_right _ h)) (by decide +kernel))
set_option maxRecDepth 20000 in
theorem gX0_part_X0_checkEdge : GoodIn wsX0_part (wsV RX0 53 RX0 yX0_checkEdge wsX0_checkEdge) := goodIn_app (goodIn_of _ (by decide +kernel)) ggX0_part_X0_checkEdge
set_option maxRecDepth 20000 in
theorem ggX0_part_X0_cutEdge : GoodIn wsX0_part wsX0_cutEdge := goodIn_r _ [31, 32, 33, 34, 35, 36, 21, 37, 38, 39, 4, 40, 25, 26, 27, 41, 42, 43, 44, 45, 46, 47, 48, 49, 50, 51, 52, 53, 54, 55, 14, 56, 57, 58, 59, 22, 23, 24, 60, 61, 62, 63, 64, 65, 66, 67, 68, 69, 70, 71, 72, 73, 74, 75, 76, 77, 78, 79, 80, 81, 82, 83, 84] (by decide +kernel) (by decide +kernel)
set_option maxRecDepth 20000 in
theorem gX0_part_X0_cutEdge : GoodIn wsX0_part (wsV RX0 56 RX0 yX0_cutEdge wsX0_cutEdge) := goodIn_app (goodIn_of _ (by decide +kernel)) ggX0_part_X0_cutEdge
theorem dX0_part_0 : decode cX0_part 0 = .ok (.aload_n 0, 1) := by decide +kernel
theorem dX0_part_1 : decode cX0_part 1 = .ok (.iload_n 1, 1) := by decide +kernel
theorem dX0_part_2 : decode cX0_part 2 = .ok (.iload_n 2, 1) := by decide +kernel
theorem dX0_part_3 : decode cX0_part 3 = .ok (.invokevirtual 36, 3) := by decide +kernel
theorem dX0_part_6 : decode cX0_part 6 = .ok (.aload_n 0, 1) := by decide +kernel
theorem dX0_part_7 : decode cX0_part 7 = .ok (.iload_n 1, 1) := by decide +kernel
theorem dX0_part_8 : decode cX0_part 8 = .ok (.iload_n 2, 1) := by decide +kernel
theorem dX0_part_9 : decode cX0_part 9 = .ok (.invokevirtual 53, 3) := by decide +kernel
theorem dX0_part_12 : decode cX0_part 12 = .ok (.aload_n 0, 1) := by decide +kernel
theorem dX0_part_13 : decode cX0_part 13 = .ok (.iload_n 1, 1) := by decide +kernel
theorem dX0_part_14 : decode cX0_part 14 = .ok (.iload_n 2, 1) := by decide +kernel
theorem dX0_part_15 : decode cX0_part 15 = .ok (.invokevirtual 56, 3) := by decide +kernel
theorem dX0_part_18 : decode cX0_part 18 = .ok (.ireturn, 1) := by decide +kernel
set_option maxRecDepth 20000 in
theorem ggX0_isolate_X0_checkNode : GoodIn wsX0_isolate wsX0_checkNode := goodIn_ca (goodIn_r _ [7, 8, 9, 1, 67, 68, 69, 70, 71, 72] (by decide +kernel) (by decide +kernel)) (goodIn_sub (fun _ h => List.mem_cons_of_mem _ (List.mem_append_right _ h)) (by decide +kernel))
set_option maxRecDepth 20000 in
theorem gX0_isolate_X0_checkNode : GoodIn wsX0_isolate (wsV RX0 59 RX0 yX0_checkNode wsX0_checkNode) := goodIn_app (goodIn_of _ (by decide +kernel)) ggX0_isolate_X0_checkNode
set_option maxRecDepth 20000 in
theorem ggX0_isolate_X0_contains : GoodIn wsX0_isolate wsX0_contains := goodIn_r _ [12, 13, 14, 6, 15] (by decide +kernel) (by decide +kernel)
set_option maxRecDepth 20000 in
theorem gX0_isolate_X0_contains : GoodIn wsX0_isolate (va_wsS RX0 40 yX0_contains wsX0_contains) := goodIn_app (goodIn_of _ (by decide +kernel)) ggX0_isolate_X0_contains
set_option maxRecDepth 20000 in
theorem ggX0_isolate_X0_cutEdge : GoodIn wsX0_isolate wsX0_cutEdge := goodIn_r _ [19, 20, 21, 22, 23, 24, 2, 25, 26, 27, 6, 28, 13, 14, 15, 29, 30, 31, 32, 33, 34, 35, 36, 37, 38, 39, 40, 41, 42, 43, 1, 44, 45, 46, 47, 10, 11, 12, 48, 49, 50, 51, 52, 53, 54, 55, 56, 57, 58, 59, 60, 61, 62, 63, 64, 65, 66, 67, 68, 69, 70, 71, 72] (by decide +kernel) (by decide +kernel)
set_option maxRecDepth 20000 in
theorem gX0_isolate_X0_cutEdge : GoodIn wsX0_isolate (wsV RX0 56 RX0 yX0_cutEdge wsX0_cutEdge) := goodIn_app (goodIn_of _ (by decide +kernel)) ggX0_isolate_X0_cutEdge
theorem dX0_isolate_0 : decode cX0_isolate 0 = .ok (.aload_n 0, 1) := by decide +kernel
theorem dX0_isolate_1 : decode cX0_isolate 1 = .ok (.iload_n 1, 1) := by decide +kernel
theorem dX0_isolate_2 : decode cX0_isolate 2 = .ok (.invokevirtual 59, 3) := by decide +kernel
theorem dX0_isolate_5 : decode cX0_isolate 5 = .ok (.iconst 0, 1) := by decide +kernel
theorem dX0_isolate_6 : decode cX0_isolate 6 = .ok (.istore_n 2, 1) := by decide +kernel
theorem dX0_isolate_7 : decode cX0_isolate 7 = .ok (.iconst 0, 1) := by decide +kernel
theorem dX0_isolate_8 : decode cX0_isolate 8 = .ok (.istore_n 3, 1) := by decide +kernel
theorem dX0_isolate_9 : decode cX0_isolate 9 = .ok (.iload_n 3, 1) := by decide +kernel
theorem dX0_isolate_10 : decode cX0_isolate 10 = .ok (.aload_n 0, 1) := by decide +kernel
theorem dX0_isolate_11 : decode cX0_isolate 11 = .ok (.getfield 19, 3) := by decide +kernel
theorem dX0_isolate_14 : decode cX0_isolate 14 = .ok (.if_icmp .ge 32, 3) := by decide +kernel
theorem dX0_isolate_17 : decode cX0_isolate 17 = .ok (.aload_n 0, 1) := by decide +kernel
theorem dX0_isolate_18 : decode cX0_isolate 18 = .ok (.getfield 9, 3) := by decide +kernel
theorem dX0_isolate_21 : decode cX0_isolate 21 = .ok (.iload_n 1, 1) := by decide +kernel
theorem dX0_isolate_22 : decode cX0_isolate 22 = .ok (.iaload, 1) := by decide +kernel
theorem dX0_isolate_23 : decode cX0_isolate 23 = .ok (.iload_n 3, 1) := by decide +kernel
theorem dX0_isolate_24 : decode cX0_isolate 24 = .ok (.invokestatic 40, 3) := by decide +kernel
theorem dX0_isolate_27 : decode cX0_isolate 27 = .ok (.ifCond .eq 13, 3) := by decide +kernel
theorem dX0_isolate_30 : decode cX0_isolate 30 = .ok (.aload_n 0, 1) := by decide +kernel
theorem dX0_isolate_31 : decode cX0_isolate 31 = .ok (.iload_n 1, 1) := by decide +kernel
theorem dX0_isolate_32 : decode cX0_isolate 32 = .ok (.iload_n 3, 1) := by decide +kernel
theorem dX0_isolate_33 : decode cX0_isolate 33 = .ok (.invokevirtual 56, 3) := by decide +kernel
theorem dX0_isolate_36 : decode cX0_isolate 36 = .ok (.pop, 1) := by decide +kernel
theorem dX0_isolate_37 : decode cX0_isolate 37 = .ok (.iinc 2 1, 3) := by decide +kernel
theorem dX0_isolate_40 : decode cX0_isolate 40 = .ok (.iinc 3 1, 3) := by decide +kernel
theorem dX0_isolate_43 : decode cX0_isolate 43 = .ok (.goto (-34), 3) := by decide +kernel
theorem dX0_isolate_46 : decode cX0_isolate 46 = .ok (.iload_n 2, 1) := by decide +kernel
theorem dX0_isolate_47 : decode cX0_isolate 47 = .ok (.ireturn, 1) := by decide +kernel
theorem dX0_nodes_0 : decode cX0_nodes 0 = .ok (.aload_n 0, 1) := by decide +kernel
theorem dX0_nodes_1 : decode cX0_nodes 1 = .ok (.getfield 19, 3) := by decide +kernel
theorem dX0_nodes_4 : decode cX0_nodes 4 = .ok (.ireturn, 1) := by decide +kernel
theorem dX0_edges_0 : decode cX0_edges 0 = .ok (.aload_n 0, 1) := by decide +kernel
theorem dX0_edges_1 : decode cX0_edges 1 = .ok (.getfield 23, 3) := by decide +kernel
theorem dX0_edges_4 : decode cX0_edges 4 = .ok (.ireturn, 1) := by decide +kernel
set_option maxRecDepth 20000 in
theorem ggX0_degree_X0_checkNode : GoodIn wsX0_degree wsX0_checkNode := goodIn_ca (goodIn_r _ [6, 7, 8, 9, 20, 21, 22, 23, 24, 25] (by decide +kernel) (by decide +kernel)) (goodIn_sub (fun _ h => List.mem_cons_of_mem _ (List.mem_append_right _ h)) (by decide +kernel))
set_option maxRecDepth 20000 in
theorem gX0_degree_X0_checkNode : GoodIn wsX0_degree (wsV RX0 59 RX0 yX0_checkNode wsX0_checkNode) := goodIn_app (goodIn_of _ (by decide +kernel)) ggX0_degree_X0_checkNode
set_option maxRecDepth 20000 in
theorem ggX0_degree_X0_size : GoodIn wsX0_degree wsX0_size := goodIn_r _ [12, 13, 14, 15, 16, 17, 18, 19] (by decide +kernel) (by decide +kernel)
set_option maxRecDepth 20000 in
theorem gX0_degree_X0_size : GoodIn wsX0_degree (va_wsS RX0 63 yX0_size wsX0_size) := goodIn_app (goodIn_of _ (by decide +kernel)) ggX0_degree_X0_size
theorem dX0_degree_0 : decode cX0_degree 0 = .ok (.aload_n 0, 1) := by decide +kernel
theorem dX0_degree_1 : decode cX0_degree 1 = .ok (.iload_n 1, 1) := by decide +kernel
theorem dX0_degree_2 : decode cX0_degree 2 = .ok (.invokevirtual 59, 3) := by decide +kernel
theorem dX0_degree_5 : decode cX0_degree 5 = .ok (.aload_n 0, 1) := by decide +kernel
theorem dX0_degree_6 : decode cX0_degree 6 = .ok (.getfield 9, 3) := by decide +kernel
theorem dX0_degree_9 : decode cX0_degree 9 = .ok (.iload_n 1, 1) := by decide +kernel
theorem dX0_degree_10 : decode cX0_degree 10 = .ok (.iaload, 1) := by decide +kernel
theorem dX0_degree_11 : decode cX0_degree 11 = .ok (.invokestatic 63, 3) := by decide +kernel
theorem dX0_degree_14 : decode cX0_degree 14 = .ok (.ireturn, 1) := by decide +kernel
set_option maxRecDepth 20000 in
theorem ggX0_neighbour_X0_checkNode : GoodIn wsX0_neighbour wsX0_checkNode := goodIn_ca (goodIn_r _ [9, 1, 2, 3, 16, 17, 18, 19, 20, 21] (by decide +kernel) (by decide +kernel)) (goodIn_sub (fun _ h => List.mem_cons_of_mem _ (List.mem_append_right _ h)) (by decide +kernel))
set_option maxRecDepth 20000 in
theorem gX0_neighbour_X0_checkNode : GoodIn wsX0_neighbour (wsV RX0 59 RX0 yX0_checkNode wsX0_checkNode) := goodIn_app (goodIn_of _ (by decide +kernel)) ggX0_neighbour_X0_checkNode
set_option maxRecDepth 20000 in
theorem ggX0_neighbour_X0_contains : GoodIn wsX0_neighbour wsX0_contains := goodIn_r _ [12, 13, 14, 8, 15] (by decide +kernel) (by decide +kernel)
set_option maxRecDepth 20000 in
theorem gX0_neighbour_X0_contains : GoodIn wsX0_neighbour (va_wsS RX0 40 yX0_contains wsX0_contains) := goodIn_app (goodIn_of _ (by decide +kernel)) ggX0_neighbour_X0_contains
theorem dX0_neighbour_0 : decode cX0_neighbour 0 = .ok (.aload_n 0, 1) := by decide +kernel
theorem dX0_neighbour_1 : decode cX0_neighbour 1 = .ok (.iload_n 1, 1) := by decide +kernel
theorem dX0_neighbour_2 : decode cX0_neighbour 2 = .ok (.invokevirtual 59, 3) := by decide +kernel
theorem dX0_neighbour_5 : decode cX0_neighbour 5 = .ok (.iconst 0, 1) := by decide +kernel
theorem dX0_neighbour_6 : decode cX0_neighbour 6 = .ok (.istore_n 3, 1) := by decide +kernel
theorem dX0_neighbour_7 : decode cX0_neighbour 7 = .ok (.iconst 0, 1) := by decide +kernel
theorem dX0_neighbour_8 : decode cX0_neighbour 8 = .ok (.istore 4, 2) := by decide +kernel
theorem dX0_neighbour_10 : decode cX0_neighbour 10 = .ok (.iload 4, 2) := by decide +kernel
theorem dX0_neighbour_12 : decode cX0_neighbour 12 = .ok (.aload_n 0, 1) := by decide +kernel
theorem dX0_neighbour_13 : decode cX0_neighbour 13 = .ok (.getfield 19, 3) := by decide +kernel
theorem dX0_neighbour_16 : decode cX0_neighbour 16 = .ok (.if_icmp .ge 34, 3) := by decide +kernel
theorem dX0_neighbour_19 : decode cX0_neighbour 19 = .ok (.aload_n 0, 1) := by decide +kernel
theorem dX0_neighbour_20 : decode cX0_neighbour 20 = .ok (.getfield 9, 3) := by decide +kernel
theorem dX0_neighbour_23 : decode cX0_neighbour 23 = .ok (.iload_n 1, 1) := by decide +kernel
theorem dX0_neighbour_24 : decode cX0_neighbour 24 = .ok (.iaload, 1) := by decide +kernel
theorem dX0_neighbour_25 : decode cX0_neighbour 25 = .ok (.iload 4, 2) := by decide +kernel
theorem dX0_neighbour_27 : decode cX0_neighbour 27 = .ok (.invokestatic 40, 3) := by decide +kernel
theorem dX0_neighbour_30 : decode cX0_neighbour 30 = .ok (.ifCond .eq 14, 3) := by decide +kernel
theorem dX0_neighbour_33 : decode cX0_neighbour 33 = .ok (.iload_n 3, 1) := by decide +kernel
theorem dX0_neighbour_34 : decode cX0_neighbour 34 = .ok (.iload_n 2, 1) := by decide +kernel
theorem dX0_neighbour_35 : decode cX0_neighbour 35 = .ok (.if_icmp .ne 6, 3) := by decide +kernel
theorem dX0_neighbour_38 : decode cX0_neighbour 38 = .ok (.iload 4, 2) := by decide +kernel
theorem dX0_neighbour_40 : decode cX0_neighbour 40 = .ok (.ireturn, 1) := by decide +kernel
theorem dX0_neighbour_41 : decode cX0_neighbour 41 = .ok (.iinc 3 1, 3) := by decide +kernel
theorem dX0_neighbour_44 : decode cX0_neighbour 44 = .ok (.iinc 4 1, 3) := by decide +kernel
theorem dX0_neighbour_47 : decode cX0_neighbour 47 = .ok (.goto (-37), 3) := by decide +kernel
theorem dX0_neighbour_50 : decode cX0_neighbour 50 = .ok (.new 67, 3) := by decide +kernel
theorem dX0_neighbour_53 : decode cX0_neighbour 53 = .ok (.dup, 1) := by decide +kernel
theorem dX0_neighbour_54 : decode cX0_neighbour 54 = .ok (.ldc 69, 2) := by decide +kernel
theorem dX0_neighbour_56 : decode cX0_neighbour 56 = .ok (.invokespecial 71, 3) := by decide +kernel
theorem dX0_neighbour_59 : decode cX0_neighbour 59 = .ok (.athrow, 1) := by decide +kernel
set_option maxRecDepth 20000 in
theorem ggX0_areJoined_X0_checkNode : GoodIn wsX0_areJoined wsX0_checkNode := goodIn_ca (goodIn_r _ [6, 7, 8, 9, 16, 17, 18, 19, 20, 21] (by decide +kernel) (by decide +kernel)) (goodIn_sub (fun _ h => List.mem_cons_of_mem _ (List.mem_append_right _ h)) (by decide +kernel))
set_option maxRecDepth 20000 in
theorem gX0_areJoined_X0_checkNode : GoodIn wsX0_areJoined (wsV RX0 59 RX0 yX0_checkNode wsX0_checkNode) := goodIn_app (goodIn_of _ (by decide +kernel)) ggX0_areJoined_X0_checkNode
set_option maxRecDepth 20000 in
theorem ggX0_areJoined_X0_contains : GoodIn wsX0_areJoined wsX0_contains := goodIn_r _ [12, 13, 14, 5, 15] (by decide +kernel) (by decide +kernel)
set_option maxRecDepth 20000 in
theorem gX0_areJoined_X0_contains : GoodIn wsX0_areJoined (va_wsS RX0 40 yX0_contains wsX0_contains) := goodIn_app (goodIn_of _ (by decide +kernel)) ggX0_areJoined_X0_contains
theorem dX0_areJoined_0 : decode cX0_areJoined 0 = .ok (.aload_n 0, 1) := by decide +kernel
theorem dX0_areJoined_1 : decode cX0_areJoined 1 = .ok (.iload_n 1, 1) := by decide +kernel
theorem dX0_areJoined_2 : decode cX0_areJoined 2 = .ok (.invokevirtual 59, 3) := by decide +kernel
theorem dX0_areJoined_5 : decode cX0_areJoined 5 = .ok (.aload_n 0, 1) := by decide +kernel
theorem dX0_areJoined_6 : decode cX0_areJoined 6 = .ok (.iload_n 2, 1) := by decide +kernel
theorem dX0_areJoined_7 : decode cX0_areJoined 7 = .ok (.invokevirtual 59, 3) := by decide +kernel
theorem dX0_areJoined_10 : decode cX0_areJoined 10 = .ok (.aload_n 0, 1) := by decide +kernel
theorem dX0_areJoined_11 : decode cX0_areJoined 11 = .ok (.getfield 9, 3) := by decide +kernel
theorem dX0_areJoined_14 : decode cX0_areJoined 14 = .ok (.iload_n 1, 1) := by decide +kernel
theorem dX0_areJoined_15 : decode cX0_areJoined 15 = .ok (.iaload, 1) := by decide +kernel
theorem dX0_areJoined_16 : decode cX0_areJoined 16 = .ok (.iload_n 2, 1) := by decide +kernel
theorem dX0_areJoined_17 : decode cX0_areJoined 17 = .ok (.invokestatic 40, 3) := by decide +kernel
theorem dX0_areJoined_20 : decode cX0_areJoined 20 = .ok (.ireturn, 1) := by decide +kernel
set_option maxRecDepth 20000 in
theorem ggX0_core_X0_checkNode : GoodIn wsX0_core wsX0_checkNode := goodIn_ca (goodIn_r _ [6, 7, 8, 9, 10, 11, 12, 13, 14, 15] (by decide +kernel) (by decide +kernel)) (goodIn_sub (fun _ h => List.mem_cons_of_mem _ (List.mem_append_right _ h)) (by decide +kernel))
set_option maxRecDepth 20000 in
theorem gX0_core_X0_checkNode : GoodIn wsX0_core (wsV RX0 59 RX0 yX0_checkNode wsX0_checkNode) := goodIn_app (goodIn_of _ (by decide +kernel)) ggX0_core_X0_checkNode
theorem dX0_core_0 : decode cX0_core 0 = .ok (.aload_n 0, 1) := by decide +kernel
theorem dX0_core_1 : decode cX0_core 1 = .ok (.iload_n 1, 1) := by decide +kernel
theorem dX0_core_2 : decode cX0_core 2 = .ok (.invokevirtual 59, 3) := by decide +kernel
theorem dX0_core_5 : decode cX0_core 5 = .ok (.aload_n 0, 1) := by decide +kernel
theorem dX0_core_6 : decode cX0_core 6 = .ok (.getfield 13, 3) := by decide +kernel
theorem dX0_core_9 : decode cX0_core 9 = .ok (.iload_n 1, 1) := by decide +kernel
theorem dX0_core_10 : decode cX0_core 10 = .ok (.iaload, 1) := by decide +kernel
theorem dX0_core_11 : decode cX0_core 11 = .ok (.ireturn, 1) := by decide +kernel
theorem dX0_degeneracy_0 : decode cX0_degeneracy 0 = .ok (.iconst 0, 1) := by decide +kernel
theorem dX0_degeneracy_1 : decode cX0_degeneracy 1 = .ok (.istore_n 1, 1) := by decide +kernel
theorem dX0_degeneracy_2 : decode cX0_degeneracy 2 = .ok (.iconst 0, 1) := by decide +kernel
theorem dX0_degeneracy_3 : decode cX0_degeneracy 3 = .ok (.istore_n 2, 1) := by decide +kernel
theorem dX0_degeneracy_4 : decode cX0_degeneracy 4 = .ok (.iload_n 2, 1) := by decide +kernel
theorem dX0_degeneracy_5 : decode cX0_degeneracy 5 = .ok (.aload_n 0, 1) := by decide +kernel
theorem dX0_degeneracy_6 : decode cX0_degeneracy 6 = .ok (.getfield 19, 3) := by decide +kernel
theorem dX0_degeneracy_9 : decode cX0_degeneracy 9 = .ok (.if_icmp .ge 20, 3) := by decide +kernel
theorem dX0_degeneracy_12 : decode cX0_degeneracy 12 = .ok (.iload_n 1, 1) := by decide +kernel
theorem dX0_degeneracy_13 : decode cX0_degeneracy 13 = .ok (.aload_n 0, 1) := by decide +kernel
theorem dX0_degeneracy_14 : decode cX0_degeneracy 14 = .ok (.getfield 13, 3) := by decide +kernel
theorem dX0_degeneracy_17 : decode cX0_degeneracy 17 = .ok (.iload_n 2, 1) := by decide +kernel
theorem dX0_degeneracy_18 : decode cX0_degeneracy 18 = .ok (.iaload, 1) := by decide +kernel
theorem dX0_degeneracy_19 : decode cX0_degeneracy 19 = .ok (.invokestatic 72, 3) := by decide +kernel
theorem dX0_degeneracy_22 : decode cX0_degeneracy 22 = .ok (.istore_n 1, 1) := by decide +kernel
theorem dX0_degeneracy_23 : decode cX0_degeneracy 23 = .ok (.iinc 2 1, 3) := by decide +kernel
theorem dX0_degeneracy_26 : decode cX0_degeneracy 26 = .ok (.goto (-22), 3) := by decide +kernel
theorem dX0_degeneracy_29 : decode cX0_degeneracy 29 = .ok (.iload_n 1, 1) := by decide +kernel
theorem dX0_degeneracy_30 : decode cX0_degeneracy 30 = .ok (.ireturn, 1) := by decide +kernel
set_option maxRecDepth 20000 in
theorem ggX0_coreSize_X0_checkLevel : GoodIn wsX0_coreSize wsX0_checkLevel := goodIn_ca (goodIn_r _ [4, 5, 6] (by decide +kernel) (by decide +kernel)) (goodIn_sub (fun _ h => List.mem_cons_of_mem _ (List.mem_append_right _ h)) (by decide +kernel))
set_option maxRecDepth 20000 in
theorem gX0_coreSize_X0_checkLevel : GoodIn wsX0_coreSize (va_wsS RX0 77 yX0_checkLevel wsX0_checkLevel) := goodIn_app (goodIn_of _ (by decide +kernel)) ggX0_coreSize_X0_checkLevel
set_option maxRecDepth 20000 in
theorem ggX0_coreSize_X0_coreSet : GoodIn wsX0_coreSize wsX0_coreSet := goodIn_r _ [10, 11, 12, 13, 14, 3, 15, 16, 17, 18, 29, 30, 31, 32, 33, 34] (by decide +kernel) (by decide +kernel)
set_option maxRecDepth 20000 in
theorem gX0_coreSize_X0_coreSet : GoodIn wsX0_coreSize (wsV RX0 80 RX0 yX0_coreSet wsX0_coreSet) := goodIn_app (goodIn_of _ (by decide +kernel)) ggX0_coreSize_X0_coreSet
set_option maxRecDepth 20000 in
theorem ggX0_coreSize_X0_size : GoodIn wsX0_coreSize wsX0_size := goodIn_r _ [21, 22, 23, 24, 25, 26, 27, 28] (by decide +kernel) (by decide +kernel)
set_option maxRecDepth 20000 in
theorem gX0_coreSize_X0_size : GoodIn wsX0_coreSize (va_wsS RX0 63 yX0_size wsX0_size) := goodIn_app (goodIn_of _ (by decide +kernel)) ggX0_coreSize_X0_size
theorem dX0_coreSize_0 : decode cX0_coreSize 0 = .ok (.iload_n 1, 1) := by decide +kernel
theorem dX0_coreSize_1 : decode cX0_coreSize 1 = .ok (.invokestatic 77, 3) := by decide +kernel
theorem dX0_coreSize_4 : decode cX0_coreSize 4 = .ok (.aload_n 0, 1) := by decide +kernel
theorem dX0_coreSize_5 : decode cX0_coreSize 5 = .ok (.iload_n 1, 1) := by decide +kernel
theorem dX0_coreSize_6 : decode cX0_coreSize 6 = .ok (.invokevirtual 80, 3) := by decide +kernel
theorem dX0_coreSize_9 : decode cX0_coreSize 9 = .ok (.invokestatic 63, 3) := by decide +kernel
theorem dX0_coreSize_12 : decode cX0_coreSize 12 = .ok (.ireturn, 1) := by decide +kernel
theorem dX0_changes_0 : decode cX0_changes 0 = .ok (.aload_n 0, 1) := by decide +kernel
theorem dX0_changes_1 : decode cX0_changes 1 = .ok (.getfield 26, 3) := by decide +kernel
theorem dX0_changes_4 : decode cX0_changes 4 = .ok (.ireturn, 1) := by decide +kernel
set_option maxRecDepth 20000 in
theorem ggX0_community_X0_checkNode : GoodIn wsX0_community wsX0_checkNode := goodIn_ca (goodIn_r _ [5, 6, 7, 8, 43, 44, 45, 46, 47, 48] (by decide +kernel) (by decide +kernel)) (goodIn_sub (fun _ h => List.mem_cons_of_mem _ (List.mem_append_left _ (List.mem_append_right _ h))) (by decide +kernel))
set_option maxRecDepth 20000 in
theorem gX0_community_X0_checkNode : GoodIn wsX0_community (wsV RX0 59 RX0 yX0_checkNode wsX0_checkNode) := goodIn_app (goodIn_of _ (by decide +kernel)) ggX0_community_X0_checkNode
set_option maxRecDepth 20000 in
theorem ggX0_community_X0_checkLevel : GoodIn wsX0_community wsX0_checkLevel := goodIn_ca (goodIn_r _ [11, 12, 13] (by decide +kernel) (by decide +kernel)) (goodIn_sub (fun _ h => List.mem_cons_of_mem _ (List.mem_append_right _ h)) (by decide +kernel))
set_option maxRecDepth 20000 in
theorem gX0_community_X0_checkLevel : GoodIn wsX0_community (va_wsS RX0 77 yX0_checkLevel wsX0_checkLevel) := goodIn_app (goodIn_of _ (by decide +kernel)) ggX0_community_X0_checkLevel
set_option maxRecDepth 20000 in
theorem ggX0_community_X0_single : GoodIn wsX0_community wsX0_single := goodIn_r _ [16] (by decide +kernel) (by decide +kernel)
set_option maxRecDepth 20000 in
theorem gX0_community_X0_single : GoodIn wsX0_community (va_wsS RX0 83 yX0_single wsX0_single) := goodIn_app (goodIn_of _ (by decide +kernel)) ggX0_community_X0_single
set_option maxRecDepth 20000 in
theorem ggX0_community_X0_coreSet : GoodIn wsX0_community wsX0_coreSet := goodIn_r _ [20, 8, 21, 22, 23, 4, 24, 14, 15, 16, 43, 44, 45, 46, 47, 48] (by decide +kernel) (by decide +kernel)
set_option maxRecDepth 20000 in
theorem gX0_community_X0_coreSet : GoodIn wsX0_community (wsV RX0 80 RX0 yX0_coreSet wsX0_coreSet) := goodIn_app (goodIn_of _ (by decide +kernel)) ggX0_community_X0_coreSet
set_option maxRecDepth 20000 in
theorem ggX0_community_X0_reach : GoodIn wsX0_community wsX0_reach := goodIn_r _ [28, 8, 29, 30, 31, 4, 32, 14, 15, 16, 43, 44, 45, 46, 47, 48] (by decide +kernel) (by decide +kernel)
set_option maxRecDepth 20000 in
theorem gX0_community_X0_reach : GoodIn wsX0_community (wsV RX0 86 RX0 yX0_reach wsX0_reach) := goodIn_app (goodIn_of _ (by decide +kernel)) ggX0_community_X0_reach
set_option maxRecDepth 20000 in
theorem ggX0_community_X0_size : GoodIn wsX0_community wsX0_size := goodIn_r _ [35, 36, 37, 38, 39, 40, 41, 42] (by decide +kernel) (by decide +kernel)
set_option maxRecDepth 20000 in
theorem gX0_community_X0_size : GoodIn wsX0_community (va_wsS RX0 63 yX0_size wsX0_size) := goodIn_app (goodIn_of _ (by decide +kernel)) ggX0_community_X0_size
theorem dX0_community_0 : decode cX0_community 0 = .ok (.aload_n 0, 1) := by decide +kernel
theorem dX0_community_1 : decode cX0_community 1 = .ok (.iload_n 1, 1) := by decide +kernel
theorem dX0_community_2 : decode cX0_community 2 = .ok (.invokevirtual 59, 3) := by decide +kernel
theorem dX0_community_5 : decode cX0_community 5 = .ok (.iload_n 2, 1) := by decide +kernel
theorem dX0_community_6 : decode cX0_community 6 = .ok (.invokestatic 77, 3) := by decide +kernel
theorem dX0_community_9 : decode cX0_community 9 = .ok (.aload_n 0, 1) := by decide +kernel
theorem dX0_community_10 : decode cX0_community 10 = .ok (.iload_n 1, 1) := by decide +kernel
theorem dX0_community_11 : decode cX0_community 11 = .ok (.invokestatic 83, 3) := by decide +kernel
theorem dX0_community_14 : decode cX0_community 14 = .ok (.aload_n 0, 1) := by decide +kernel
theorem dX0_community_15 : decode cX0_community 15 = .ok (.iload_n 2, 1) := by decide +kernel
theorem dX0_community_16 : decode cX0_community 16 = .ok (.invokevirtual 80, 3) := by decide +kernel
theorem dX0_community_19 : decode cX0_community 19 = .ok (.invokevirtual 86, 3) := by decide +kernel
theorem dX0_community_22 : decode cX0_community 22 = .ok (.invokestatic 63, 3) := by decide +kernel
theorem dX0_community_25 : decode cX0_community 25 = .ok (.ireturn, 1) := by decide +kernel
set_option maxRecDepth 20000 in
theorem ggX0_communities_X0_checkLevel : GoodIn wsX0_communities wsX0_checkLevel := goodIn_ca (goodIn_r _ [4, 5, 6] (by decide +kernel) (by decide +kernel)) (goodIn_sub (fun _ h => List.mem_cons_of_mem _ (List.mem_append_right _ h)) (by decide +kernel))
set_option maxRecDepth 20000 in
theorem gX0_communities_X0_checkLevel : GoodIn wsX0_communities (va_wsS RX0 77 yX0_checkLevel wsX0_checkLevel) := goodIn_app (goodIn_of _ (by decide +kernel)) ggX0_communities_X0_checkLevel
set_option maxRecDepth 20000 in
theorem ggX0_communities_X0_coreSet : GoodIn wsX0_communities wsX0_coreSet := goodIn_r _ [10, 11, 12, 13, 14, 3, 15, 16, 17, 18, 31, 32, 33, 34, 35, 36] (by decide +kernel) (by decide +kernel)
set_option maxRecDepth 20000 in
theorem gX0_communities_X0_coreSet : GoodIn wsX0_communities (wsV RX0 80 RX0 yX0_coreSet wsX0_coreSet) := goodIn_app (goodIn_of _ (by decide +kernel)) ggX0_communities_X0_coreSet
set_option maxRecDepth 20000 in
theorem ggX0_communities_X0_countCommunities : GoodIn wsX0_communities wsX0_countCommunities := goodIn_r _ [22, 11, 23, 24, 3, 25, 16, 17, 18, 26, 27, 28, 29, 30, 31, 32, 33, 34, 35, 36] (by decide +kernel) (by decide +kernel)
set_option maxRecDepth 20000 in
theorem gX0_communities_X0_countCommunities : GoodIn wsX0_communities (wsV RX0 89 RX0 yX0_countCommunities wsX0_countCommunities) := goodIn_app (goodIn_of _ (by decide +kernel)) ggX0_communities_X0_countCommunities
theorem dX0_communities_0 : decode cX0_communities 0 = .ok (.iload_n 1, 1) := by decide +kernel
theorem dX0_communities_1 : decode cX0_communities 1 = .ok (.invokestatic 77, 3) := by decide +kernel
theorem dX0_communities_4 : decode cX0_communities 4 = .ok (.aload_n 0, 1) := by decide +kernel
theorem dX0_communities_5 : decode cX0_communities 5 = .ok (.aload_n 0, 1) := by decide +kernel
theorem dX0_communities_6 : decode cX0_communities 6 = .ok (.iload_n 1, 1) := by decide +kernel
theorem dX0_communities_7 : decode cX0_communities 7 = .ok (.invokevirtual 80, 3) := by decide +kernel
theorem dX0_communities_10 : decode cX0_communities 10 = .ok (.aload_n 0, 1) := by decide +kernel
theorem dX0_communities_11 : decode cX0_communities 11 = .ok (.iload_n 1, 1) := by decide +kernel
theorem dX0_communities_12 : decode cX0_communities 12 = .ok (.invokevirtual 80, 3) := by decide +kernel
theorem dX0_communities_15 : decode cX0_communities 15 = .ok (.invokevirtual 89, 3) := by decide +kernel
theorem dX0_communities_18 : decode cX0_communities 18 = .ok (.ireturn, 1) := by decide +kernel
set_option maxRecDepth 20000 in
theorem ggX0_together_X0_checkNode : GoodIn wsX0_together wsX0_checkNode := goodIn_ca (goodIn_r _ [12, 13, 14, 15, 34, 35, 36, 37, 38, 39] (by decide +kernel) (by decide +kernel)) (goodIn_sub (fun _ h => List.mem_cons_of_mem _ (List.mem_append_right _ h)) (by decide +kernel))
set_option maxRecDepth 20000 in
theorem gX0_together_X0_checkNode : GoodIn wsX0_together (wsV RX0 59 RX0 yX0_checkNode wsX0_checkNode) := goodIn_app (goodIn_of _ (by decide +kernel)) ggX0_together_X0_checkNode
set_option maxRecDepth 20000 in
theorem ggX0_together_X0_single : GoodIn wsX0_together wsX0_single := goodIn_r _ [18] (by decide +kernel) (by decide +kernel)
set_option maxRecDepth 20000 in
theorem gX0_together_X0_single : GoodIn wsX0_together (va_wsS RX0 83 yX0_single wsX0_single) := goodIn_app (goodIn_of _ (by decide +kernel)) ggX0_together_X0_single
set_option maxRecDepth 20000 in
theorem ggX0_together_X0_coreSet : GoodIn wsX0_together wsX0_coreSet := goodIn_r _ [22, 15, 3, 23, 24, 11, 25, 16, 17, 18, 34, 35, 36, 37, 38, 39] (by decide +kernel) (by decide +kernel)
set_option maxRecDepth 20000 in
theorem gX0_together_X0_coreSet : GoodIn wsX0_together (wsV RX0 80 RX0 yX0_coreSet wsX0_coreSet) := goodIn_app (goodIn_of _ (by decide +kernel)) ggX0_together_X0_coreSet
set_option maxRecDepth 20000 in
theorem ggX0_together_X0_reach : GoodIn wsX0_together wsX0_reach := goodIn_r _ [29, 15, 30, 31, 32, 11, 33, 16, 17, 18, 34, 35, 36, 37, 38, 39] (by decide +kernel) (by decide +kernel)
set_option maxRecDepth 20000 in
theorem gX0_together_X0_reach : GoodIn wsX0_together (wsV RX0 86 RX0 yX0_reach wsX0_reach) := goodIn_app (goodIn_of _ (by decide +kernel)) ggX0_together_X0_reach
set_option maxRecDepth 20000 in
theorem ggX0_together_X0_contains : GoodIn wsX0_together wsX0_contains := goodIn_r _ [33, 16, 17, 11, 18] (by decide +kernel) (by decide +kernel)
set_option maxRecDepth 20000 in
theorem gX0_together_X0_contains : GoodIn wsX0_together (va_wsS RX0 40 yX0_contains wsX0_contains) := goodIn_app (goodIn_of _ (by decide +kernel)) ggX0_together_X0_contains
theorem dX0_together_0 : decode cX0_together 0 = .ok (.aload_n 0, 1) := by decide +kernel
theorem dX0_together_1 : decode cX0_together 1 = .ok (.iload_n 1, 1) := by decide +kernel
theorem dX0_together_2 : decode cX0_together 2 = .ok (.invokevirtual 59, 3) := by decide +kernel
theorem dX0_together_5 : decode cX0_together 5 = .ok (.aload_n 0, 1) := by decide +kernel
theorem dX0_together_6 : decode cX0_together 6 = .ok (.iload_n 2, 1) := by decide +kernel
theorem dX0_together_7 : decode cX0_together 7 = .ok (.invokevirtual 59, 3) := by decide +kernel
theorem dX0_together_10 : decode cX0_together 10 = .ok (.aload_n 0, 1) := by decide +kernel
theorem dX0_together_11 : decode cX0_together 11 = .ok (.getfield 13, 3) := by decide +kernel
theorem dX0_together_14 : decode cX0_together 14 = .ok (.iload_n 1, 1) := by decide +kernel
theorem dX0_together_15 : decode cX0_together 15 = .ok (.iaload, 1) := by decide +kernel
theorem dX0_together_16 : decode cX0_together 16 = .ok (.aload_n 0, 1) := by decide +kernel
theorem dX0_together_17 : decode cX0_together 17 = .ok (.getfield 13, 3) := by decide +kernel
theorem dX0_together_20 : decode cX0_together 20 = .ok (.iload_n 2, 1) := by decide +kernel
theorem dX0_together_21 : decode cX0_together 21 = .ok (.iaload, 1) := by decide +kernel
theorem dX0_together_22 : decode cX0_together 22 = .ok (.invokestatic 92, 3) := by decide +kernel
theorem dX0_together_25 : decode cX0_together 25 = .ok (.istore_n 3, 1) := by decide +kernel
theorem dX0_together_26 : decode cX0_together 26 = .ok (.iload_n 3, 1) := by decide +kernel
theorem dX0_together_27 : decode cX0_together 27 = .ok (.ifCond .lt 31, 3) := by decide +kernel
theorem dX0_together_30 : decode cX0_together 30 = .ok (.aload_n 0, 1) := by decide +kernel
theorem dX0_together_31 : decode cX0_together 31 = .ok (.iload_n 1, 1) := by decide +kernel
theorem dX0_together_32 : decode cX0_together 32 = .ok (.invokestatic 83, 3) := by decide +kernel
theorem dX0_together_35 : decode cX0_together 35 = .ok (.aload_n 0, 1) := by decide +kernel
theorem dX0_together_36 : decode cX0_together 36 = .ok (.iload_n 3, 1) := by decide +kernel
theorem dX0_together_37 : decode cX0_together 37 = .ok (.invokevirtual 80, 3) := by decide +kernel
theorem dX0_together_40 : decode cX0_together 40 = .ok (.invokevirtual 86, 3) := by decide +kernel
theorem dX0_together_43 : decode cX0_together 43 = .ok (.iload_n 2, 1) := by decide +kernel
theorem dX0_together_44 : decode cX0_together 44 = .ok (.invokestatic 40, 3) := by decide +kernel
theorem dX0_together_47 : decode cX0_together 47 = .ok (.ifCond .eq 5, 3) := by decide +kernel
theorem dX0_together_50 : decode cX0_together 50 = .ok (.iload_n 3, 1) := by decide +kernel
theorem dX0_together_51 : decode cX0_together 51 = .ok (.ireturn, 1) := by decide +kernel
theorem dX0_together_52 : decode cX0_together 52 = .ok (.iinc 3 (-1), 3) := by decide +kernel
theorem dX0_together_55 : decode cX0_together 55 = .ok (.goto (-29), 3) := by decide +kernel
theorem dX0_together_58 : decode cX0_together 58 = .ok (.new 95, 3) := by decide +kernel
theorem dX0_together_61 : decode cX0_together 61 = .ok (.dup, 1) := by decide +kernel
theorem dX0_together_62 : decode cX0_together 62 = .ok (.ldc 97, 2) := by decide +kernel
theorem dX0_together_64 : decode cX0_together 64 = .ok (.invokespecial 99, 3) := by decide +kernel
theorem dX0_together_67 : decode cX0_together 67 = .ok (.athrow, 1) := by decide +kernel
set_option maxRecDepth 20000 in
theorem ggX0_hierarchy_X0_degeneracy : GoodIn wsX0_hierarchy wsX0_degeneracy := goodIn_r _ [5, 6, 7, 8, 9, 10, 11, 38, 39, 40, 41, 42, 43] (by decide +kernel) (by decide +kernel)
set_option maxRecDepth 20000 in
theorem gX0_hierarchy_X0_degeneracy : GoodIn wsX0_hierarchy (wsV RX0 100 RX0 yX0_degeneracy wsX0_degeneracy) := goodIn_app (goodIn_of _ (by decide +kernel)) ggX0_hierarchy_X0_degeneracy
set_option maxRecDepth 20000 in
theorem ggX0_hierarchy_X0_coreSet : GoodIn wsX0_hierarchy wsX0_coreSet := goodIn_r _ [15, 6, 7, 16, 17, 4, 18, 19, 20, 21, 38, 39, 40, 41, 42, 43] (by decide +kernel) (by decide +kernel)
set_option maxRecDepth 20000 in
theorem gX0_hierarchy_X0_coreSet : GoodIn wsX0_hierarchy (wsV RX0 80 RX0 yX0_coreSet wsX0_coreSet) := goodIn_app (goodIn_of _ (by decide +kernel)) ggX0_hierarchy_X0_coreSet
set_option maxRecDepth 20000 in
theorem ggX0_hierarchy_X0_shellSet : GoodIn wsX0_hierarchy wsX0_shellSet := goodIn_r _ [25, 12, 13, 14, 4, 15, 6, 7, 16, 17, 18, 19, 20, 21, 38, 39, 40, 41, 42, 43] (by decide +kernel) (by decide +kernel)
set_option maxRecDepth 20000 in
theorem gX0_hierarchy_X0_shellSet : GoodIn wsX0_hierarchy (wsV RX0 104 RX0 yX0_shellSet wsX0_shellSet) := goodIn_app (goodIn_of _ (by decide +kernel)) ggX0_hierarchy_X0_shellSet
set_option maxRecDepth 20000 in
theorem ggX0_hierarchy_X0_countCommunities : GoodIn wsX0_hierarchy wsX0_countCommunities := goodIn_r _ [29, 6, 30, 31, 4, 32, 19, 20, 21, 33, 34, 35, 36, 37, 38, 39, 40, 41, 42, 43] (by decide +kernel) (by decide +kernel)
set_option maxRecDepth 20000 in
theorem gX0_hierarchy_X0_countCommunities : GoodIn wsX0_hierarchy (wsV RX0 89 RX0 yX0_countCommunities wsX0_countCommunities) := goodIn_app (goodIn_of _ (by decide +kernel)) ggX0_hierarchy_X0_countCommunities
theorem dX0_hierarchy_0 : decode cX0_hierarchy 0 = .ok (.iconst 0, 1) := by decide +kernel
theorem dX0_hierarchy_1 : decode cX0_hierarchy 1 = .ok (.istore_n 1, 1) := by decide +kernel
theorem dX0_hierarchy_2 : decode cX0_hierarchy 2 = .ok (.aload_n 0, 1) := by decide +kernel
theorem dX0_hierarchy_3 : decode cX0_hierarchy 3 = .ok (.invokevirtual 100, 3) := by decide +kernel
theorem dX0_hierarchy_6 : decode cX0_hierarchy 6 = .ok (.istore_n 2, 1) := by decide +kernel
theorem dX0_hierarchy_7 : decode cX0_hierarchy 7 = .ok (.iconst 0, 1) := by decide +kernel
theorem dX0_hierarchy_8 : decode cX0_hierarchy 8 = .ok (.istore_n 3, 1) := by decide +kernel
theorem dX0_hierarchy_9 : decode cX0_hierarchy 9 = .ok (.iload_n 3, 1) := by decide +kernel
theorem dX0_hierarchy_10 : decode cX0_hierarchy 10 = .ok (.iload_n 2, 1) := by decide +kernel
theorem dX0_hierarchy_11 : decode cX0_hierarchy 11 = .ok (.if_icmp .gt 26, 3) := by decide +kernel
theorem dX0_hierarchy_14 : decode cX0_hierarchy 14 = .ok (.iload_n 1, 1) := by decide +kernel
theorem dX0_hierarchy_15 : decode cX0_hierarchy 15 = .ok (.aload_n 0, 1) := by decide +kernel
theorem dX0_hierarchy_16 : decode cX0_hierarchy 16 = .ok (.aload_n 0, 1) := by decide +kernel
theorem dX0_hierarchy_17 : decode cX0_hierarchy 17 = .ok (.iload_n 3, 1) := by decide +kernel
theorem dX0_hierarchy_18 : decode cX0_hierarchy 18 = .ok (.invokevirtual 80, 3) := by decide +kernel
theorem dX0_hierarchy_21 : decode cX0_hierarchy 21 = .ok (.aload_n 0, 1) := by decide +kernel
theorem dX0_hierarchy_22 : decode cX0_hierarchy 22 = .ok (.iload_n 3, 1) := by decide +kernel
theorem dX0_hierarchy_23 : decode cX0_hierarchy 23 = .ok (.invokevirtual 104, 3) := by decide +kernel
theorem dX0_hierarchy_26 : decode cX0_hierarchy 26 = .ok (.invokevirtual 89, 3) := by decide +kernel
theorem dX0_hierarchy_29 : decode cX0_hierarchy 29 = .ok (.iadd, 1) := by decide +kernel
theorem dX0_hierarchy_30 : decode cX0_hierarchy 30 = .ok (.istore_n 1, 1) := by decide +kernel
theorem dX0_hierarchy_31 : decode cX0_hierarchy 31 = .ok (.iinc 3 1, 3) := by decide +kernel
theorem dX0_hierarchy_34 : decode cX0_hierarchy 34 = .ok (.goto (-25), 3) := by decide +kernel
theorem dX0_hierarchy_37 : decode cX0_hierarchy 37 = .ok (.iload_n 1, 1) := by decide +kernel
theorem dX0_hierarchy_38 : decode cX0_hierarchy 38 = .ok (.ireturn, 1) := by decide +kernel
set_option maxRecDepth 20000 in
theorem ggX0_peeled_X0_allNodes : GoodIn wsX0_peeled wsX0_allNodes := goodIn_r _ [8, 3, 9, 10, 7, 11, 33, 34, 35, 36, 37, 38] (by decide +kernel) (by decide +kernel)
set_option maxRecDepth 20000 in
theorem gX0_peeled_X0_allNodes : GoodIn wsX0_peeled (wsV RX0 109 RX0 yX0_allNodes wsX0_allNodes) := goodIn_app (goodIn_of _ (by decide +kernel)) ggX0_peeled_X0_allNodes
set_option maxRecDepth 20000 in
theorem ggX0_peeled_X0_nextToPeel : GoodIn wsX0_peeled wsX0_nextToPeel := goodIn_r _ [15, 3, 16, 17, 18, 7, 19, 9, 10, 11, 20, 21, 22, 23, 24, 25, 26, 27, 28, 29, 33, 34, 35, 36, 37, 38] (by decide +kernel) (by decide +kernel)
set_option maxRecDepth 20000 in
theorem gX0_peeled_X0_nextToPeel : GoodIn wsX0_peeled (wsV RX0 112 RX0 yX0_nextToPeel wsX0_nextToPeel) := goodIn_app (goodIn_of _ (by decide +kernel)) ggX0_peeled_X0_nextToPeel
set_option maxRecDepth 20000 in
theorem ggX0_peeled_X0_without : GoodIn wsX0_peeled wsX0_without := goodIn_r _ [32, 9, 10, 7, 11] (by decide +kernel) (by decide +kernel)
set_option maxRecDepth 20000 in
theorem gX0_peeled_X0_without : GoodIn wsX0_peeled (va_wsS RX0 115 yX0_without wsX0_without) := goodIn_app (goodIn_of _ (by decide +kernel)) ggX0_peeled_X0_without
theorem dX0_peeled_0 : decode cX0_peeled 0 = .ok (.iload_n 1, 1) := by decide +kernel
theorem dX0_peeled_1 : decode cX0_peeled 1 = .ok (.ifCond .lt 11, 3) := by decide +kernel
theorem dX0_peeled_4 : decode cX0_peeled 4 = .ok (.iload_n 1, 1) := by decide +kernel
theorem dX0_peeled_5 : decode cX0_peeled 5 = .ok (.aload_n 0, 1) := by decide +kernel
theorem dX0_peeled_6 : decode cX0_peeled 6 = .ok (.getfield 19, 3) := by decide +kernel
theorem dX0_peeled_9 : decode cX0_peeled 9 = .ok (.if_icmp .lt 13, 3) := by decide +kernel
theorem dX0_peeled_12 : decode cX0_peeled 12 = .ok (.new 67, 3) := by decide +kernel
theorem dX0_peeled_15 : decode cX0_peeled 15 = .ok (.dup, 1) := by decide +kernel
theorem dX0_peeled_16 : decode cX0_peeled 16 = .ok (.ldc 107, 2) := by decide +kernel
theorem dX0_peeled_18 : decode cX0_peeled 18 = .ok (.invokespecial 71, 3) := by decide +kernel
theorem dX0_peeled_21 : decode cX0_peeled 21 = .ok (.athrow, 1) := by decide +kernel
theorem dX0_peeled_22 : decode cX0_peeled 22 = .ok (.aload_n 0, 1) := by decide +kernel
theorem dX0_peeled_23 : decode cX0_peeled 23 = .ok (.invokevirtual 109, 3) := by decide +kernel
theorem dX0_peeled_26 : decode cX0_peeled 26 = .ok (.istore_n 2, 1) := by decide +kernel
theorem dX0_peeled_27 : decode cX0_peeled 27 = .ok (.iconst 0, 1) := by decide +kernel
theorem dX0_peeled_28 : decode cX0_peeled 28 = .ok (.istore_n 3, 1) := by decide +kernel
theorem dX0_peeled_29 : decode cX0_peeled 29 = .ok (.iload_n 3, 1) := by decide +kernel
theorem dX0_peeled_30 : decode cX0_peeled 30 = .ok (.iload_n 1, 1) := by decide +kernel
theorem dX0_peeled_31 : decode cX0_peeled 31 = .ok (.if_icmp .ge 19, 3) := by decide +kernel
theorem dX0_peeled_34 : decode cX0_peeled 34 = .ok (.iload_n 2, 1) := by decide +kernel
theorem dX0_peeled_35 : decode cX0_peeled 35 = .ok (.aload_n 0, 1) := by decide +kernel
theorem dX0_peeled_36 : decode cX0_peeled 36 = .ok (.iload_n 2, 1) := by decide +kernel
theorem dX0_peeled_37 : decode cX0_peeled 37 = .ok (.invokevirtual 112, 3) := by decide +kernel
theorem dX0_peeled_40 : decode cX0_peeled 40 = .ok (.invokestatic 115, 3) := by decide +kernel
theorem dX0_peeled_43 : decode cX0_peeled 43 = .ok (.istore_n 2, 1) := by decide +kernel
theorem dX0_peeled_44 : decode cX0_peeled 44 = .ok (.iinc 3 1, 3) := by decide +kernel
theorem dX0_peeled_47 : decode cX0_peeled 47 = .ok (.goto (-18), 3) := by decide +kernel
theorem dX0_peeled_50 : decode cX0_peeled 50 = .ok (.aload_n 0, 1) := by decide +kernel
theorem dX0_peeled_51 : decode cX0_peeled 51 = .ok (.iload_n 2, 1) := by decide +kernel
theorem dX0_peeled_52 : decode cX0_peeled 52 = .ok (.invokevirtual 112, 3) := by decide +kernel
theorem dX0_peeled_55 : decode cX0_peeled 55 = .ok (.ireturn, 1) := by decide +kernel
set_option maxRecDepth 20000 in
theorem ggX0_denseSize_X0_denseSet : GoodIn wsX0_denseSize wsX0_denseSet := goodIn_r _ [5, 6, 7, 8, 9, 10, 4, 11, 12, 13, 14, 15, 16, 17, 18, 19, 20, 21, 22, 23, 24, 25, 26, 27, 28, 29, 30, 31, 32, 33, 34, 35, 36, 37, 38, 39, 40, 41, 42, 43, 44, 45] (by decide +kernel) (by decide +kernel)
set_option maxRecDepth 20000 in
theorem gX0_denseSize_X0_denseSet : GoodIn wsX0_denseSize (wsV RX0 118 RX0 yX0_denseSet wsX0_denseSet) := goodIn_app (goodIn_of _ (by decide +kernel)) ggX0_denseSize_X0_denseSet
set_option maxRecDepth 20000 in
theorem ggX0_denseSize_X0_size : GoodIn wsX0_denseSize wsX0_size := goodIn_r _ [25, 26, 27, 28, 29, 30, 31, 32] (by decide +kernel) (by decide +kernel)
set_option maxRecDepth 20000 in
theorem gX0_denseSize_X0_size : GoodIn wsX0_denseSize (va_wsS RX0 63 yX0_size wsX0_size) := goodIn_app (goodIn_of _ (by decide +kernel)) ggX0_denseSize_X0_size
theorem dX0_denseSize_0 : decode cX0_denseSize 0 = .ok (.aload_n 0, 1) := by decide +kernel
theorem dX0_denseSize_1 : decode cX0_denseSize 1 = .ok (.invokevirtual 118, 3) := by decide +kernel
theorem dX0_denseSize_4 : decode cX0_denseSize 4 = .ok (.invokestatic 63, 3) := by decide +kernel
theorem dX0_denseSize_7 : decode cX0_denseSize 7 = .ok (.ireturn, 1) := by decide +kernel
set_option maxRecDepth 20000 in
theorem ggX0_isDense_X0_checkNode : GoodIn wsX0_isDense wsX0_checkNode := goodIn_ca (goodIn_r _ [5, 6, 7, 8, 46, 47, 48, 49, 50, 51] (by decide +kernel) (by decide +kernel)) (goodIn_sub (fun _ h => List.mem_cons_of_mem _ (List.mem_append_right _ h)) (by decide +kernel))
set_option maxRecDepth 20000 in
theorem gX0_isDense_X0_checkNode : GoodIn wsX0_isDense (wsV RX0 59 RX0 yX0_checkNode wsX0_checkNode) := goodIn_app (goodIn_of _ (by decide +kernel)) ggX0_isDense_X0_checkNode
set_option maxRecDepth 20000 in
theorem ggX0_isDense_X0_denseSet : GoodIn wsX0_isDense wsX0_denseSet := goodIn_r _ [12, 13, 8, 14, 15, 16, 4, 17, 18, 19, 20, 21, 22, 23, 24, 25, 26, 27, 28, 29, 30, 31, 32, 33, 34, 35, 36, 37, 38, 39, 40, 41, 42, 43, 44, 45, 46, 47, 48, 49, 50, 51] (by decide +kernel) (by decide +kernel)
set_option maxRecDepth 20000 in
theorem gX0_isDense_X0_denseSet : GoodIn wsX0_isDense (wsV RX0 118 RX0 yX0_denseSet wsX0_denseSet) := goodIn_app (goodIn_of _ (by decide +kernel)) ggX0_isDense_X0_denseSet
set_option maxRecDepth 20000 in
theorem ggX0_isDense_X0_contains : GoodIn wsX0_isDense wsX0_contains := goodIn_r _ [28, 18, 19, 4, 20] (by decide +kernel) (by decide +kernel)
set_option maxRecDepth 20000 in
theorem gX0_isDense_X0_contains : GoodIn wsX0_isDense (va_wsS RX0 40 yX0_contains wsX0_contains) := goodIn_app (goodIn_of _ (by decide +kernel)) ggX0_isDense_X0_contains
theorem dX0_isDense_0 : decode cX0_isDense 0 = .ok (.aload_n 0, 1) := by decide +kernel
theorem dX0_isDense_1 : decode cX0_isDense 1 = .ok (.iload_n 1, 1) := by decide +kernel
theorem dX0_isDense_2 : decode cX0_isDense 2 = .ok (.invokevirtual 59, 3) := by decide +kernel
theorem dX0_isDense_5 : decode cX0_isDense 5 = .ok (.aload_n 0, 1) := by decide +kernel
theorem dX0_isDense_6 : decode cX0_isDense 6 = .ok (.invokevirtual 118, 3) := by decide +kernel
theorem dX0_isDense_9 : decode cX0_isDense 9 = .ok (.iload_n 1, 1) := by decide +kernel
theorem dX0_isDense_10 : decode cX0_isDense 10 = .ok (.invokestatic 40, 3) := by decide +kernel
theorem dX0_isDense_13 : decode cX0_isDense 13 = .ok (.ireturn, 1) := by decide +kernel
set_option maxRecDepth 20000 in
theorem ggX0_density_X0_denseSet : GoodIn wsX0_density wsX0_denseSet := goodIn_r _ [5, 6, 7, 8, 9, 10, 4, 11, 12, 13, 14, 15, 16, 17, 18, 19, 20, 21, 22, 23, 24, 25, 26, 27, 28, 29, 30, 31, 32, 33, 34, 35, 36, 37, 38, 39, 40, 41, 42, 43, 44, 45] (by decide +kernel) (by decide +kernel)
set_option maxRecDepth 20000 in
theorem gX0_density_X0_denseSet : GoodIn wsX0_density (wsV RX0 118 RX0 yX0_denseSet wsX0_denseSet) := goodIn_app (goodIn_of _ (by decide +kernel)) ggX0_density_X0_denseSet
set_option maxRecDepth 20000 in
theorem ggX0_density_X0_edgesWithin : GoodIn wsX0_density wsX0_edgesWithin := goodIn_r _ [39, 7, 19, 20, 21, 4, 22, 12, 13, 14, 23, 24, 25, 26, 27, 28, 29, 30, 31, 32, 40, 41, 42, 43, 44, 45] (by decide +kernel) (by decide +kernel)
set_option maxRecDepth 20000 in
theorem gX0_density_X0_edgesWithin : GoodIn wsX0_density (wsV RX0 121 RX0 yX0_edgesWithin wsX0_edgesWithin) := goodIn_app (goodIn_of _ (by decide +kernel)) ggX0_density_X0_edgesWithin
set_option maxRecDepth 20000 in
theorem ggX0_density_X0_size : GoodIn wsX0_density wsX0_size := goodIn_r _ [25, 26, 27, 28, 29, 30, 31, 32] (by decide +kernel) (by decide +kernel)
set_option maxRecDepth 20000 in
theorem gX0_density_X0_size : GoodIn wsX0_density (va_wsS RX0 63 yX0_size wsX0_size) := goodIn_app (goodIn_of _ (by decide +kernel)) ggX0_density_X0_size
theorem dX0_density_0 : decode cX0_density 0 = .ok (.aload_n 0, 1) := by decide +kernel
theorem dX0_density_1 : decode cX0_density 1 = .ok (.invokevirtual 118, 3) := by decide +kernel
theorem dX0_density_4 : decode cX0_density 4 = .ok (.istore_n 1, 1) := by decide +kernel
theorem dX0_density_5 : decode cX0_density 5 = .ok (.iload_n 1, 1) := by decide +kernel
theorem dX0_density_6 : decode cX0_density 6 = .ok (.ifCond .ne 5, 3) := by decide +kernel
theorem dX0_density_9 : decode cX0_density 9 = .ok (.dconst 0, 1) := by decide +kernel
theorem dX0_density_10 : decode cX0_density 10 = .ok (.dreturn, 1) := by decide +kernel
theorem dX0_density_11 : decode cX0_density 11 = .ok (.aload_n 0, 1) := by decide +kernel
theorem dX0_density_12 : decode cX0_density 12 = .ok (.iload_n 1, 1) := by decide +kernel
theorem dX0_density_13 : decode cX0_density 13 = .ok (.invokevirtual 121, 3) := by decide +kernel
theorem dX0_density_16 : decode cX0_density 16 = .ok (.i2d, 1) := by decide +kernel
theorem dX0_density_17 : decode cX0_density 17 = .ok (.iload_n 1, 1) := by decide +kernel
theorem dX0_density_18 : decode cX0_density 18 = .ok (.invokestatic 63, 3) := by decide +kernel
theorem dX0_density_21 : decode cX0_density 21 = .ok (.i2d, 1) := by decide +kernel
theorem dX0_density_22 : decode cX0_density 22 = .ok (.ddiv, 1) := by decide +kernel
theorem dX0_density_23 : decode cX0_density 23 = .ok (.dreturn, 1) := by decide +kernel
set_option maxRecDepth 20000 in
theorem ggX0_support_X0_checkNode : GoodIn wsX0_support wsX0_checkNode := goodIn_ca (goodIn_r _ [6, 7, 8, 9, 32, 33, 34, 35, 36, 37] (by decide +kernel) (by decide +kernel)) (goodIn_sub (fun _ h => List.mem_cons_of_mem _ (List.mem_append_left _ (List.mem_append_right _ h))) (by decide +kernel))
set_option maxRecDepth 20000 in
theorem gX0_support_X0_checkNode : GoodIn wsX0_support (wsV RX0 59 RX0 yX0_checkNode wsX0_checkNode) := goodIn_app (goodIn_of _ (by decide +kernel)) ggX0_support_X0_checkNode
set_option maxRecDepth 20000 in
theorem ggX0_support_X0_checkEdge : GoodIn wsX0_support wsX0_checkEdge := goodIn_ca (goodIn_r _ [13, 14, 15, 1, 16, 17, 5, 18, 19, 20, 21, 32, 33, 34, 35, 36, 37] (by decide +kernel) (by decide +kernel)) (goodIn_sub (fun _ h => List.mem_cons_of_mem _ (List.mem_append_right _ h)) (by decide +kernel))
set_option maxRecDepth 20000 in
theorem gX0_support_X0_checkEdge : GoodIn wsX0_support (wsV RX0 53 RX0 yX0_checkEdge wsX0_checkEdge) := goodIn_app (goodIn_of _ (by decide +kernel)) ggX0_support_X0_checkEdge
set_option maxRecDepth 20000 in
theorem ggX0_support_X0_size : GoodIn wsX0_support wsX0_size := goodIn_r _ [24, 25, 26, 27, 28, 29, 30, 31] (by decide +kernel) (by decide +kernel)
set_option maxRecDepth 20000 in
theorem gX0_support_X0_size : GoodIn wsX0_support (va_wsS RX0 63 yX0_size wsX0_size) := goodIn_app (goodIn_of _ (by decide +kernel)) ggX0_support_X0_size
theorem dX0_support_0 : decode cX0_support 0 = .ok (.aload_n 0, 1) := by decide +kernel
theorem dX0_support_1 : decode cX0_support 1 = .ok (.iload_n 1, 1) := by decide +kernel
theorem dX0_support_2 : decode cX0_support 2 = .ok (.invokevirtual 59, 3) := by decide +kernel
theorem dX0_support_5 : decode cX0_support 5 = .ok (.aload_n 0, 1) := by decide +kernel
theorem dX0_support_6 : decode cX0_support 6 = .ok (.iload_n 2, 1) := by decide +kernel
theorem dX0_support_7 : decode cX0_support 7 = .ok (.invokevirtual 59, 3) := by decide +kernel
theorem dX0_support_10 : decode cX0_support 10 = .ok (.aload_n 0, 1) := by decide +kernel
theorem dX0_support_11 : decode cX0_support 11 = .ok (.iload_n 1, 1) := by decide +kernel
theorem dX0_support_12 : decode cX0_support 12 = .ok (.iload_n 2, 1) := by decide +kernel
theorem dX0_support_13 : decode cX0_support 13 = .ok (.invokevirtual 53, 3) := by decide +kernel
theorem dX0_support_16 : decode cX0_support 16 = .ok (.aload_n 0, 1) := by decide +kernel
theorem dX0_support_17 : decode cX0_support 17 = .ok (.getfield 9, 3) := by decide +kernel
theorem dX0_support_20 : decode cX0_support 20 = .ok (.iload_n 1, 1) := by decide +kernel
theorem dX0_support_21 : decode cX0_support 21 = .ok (.iaload, 1) := by decide +kernel
theorem dX0_support_22 : decode cX0_support 22 = .ok (.aload_n 0, 1) := by decide +kernel
theorem dX0_support_23 : decode cX0_support 23 = .ok (.getfield 9, 3) := by decide +kernel
theorem dX0_support_26 : decode cX0_support 26 = .ok (.iload_n 2, 1) := by decide +kernel
theorem dX0_support_27 : decode cX0_support 27 = .ok (.iaload, 1) := by decide +kernel
theorem dX0_support_28 : decode cX0_support 28 = .ok (.iand, 1) := by decide +kernel
theorem dX0_support_29 : decode cX0_support 29 = .ok (.invokestatic 63, 3) := by decide +kernel
theorem dX0_support_32 : decode cX0_support 32 = .ok (.ireturn, 1) := by decide +kernel
set_option maxRecDepth 20000 in
theorem ggX0_triangles_X0_contains : GoodIn wsX0_triangles wsX0_contains := goodIn_r _ [6, 7, 8, 5, 9] (by decide +kernel) (by decide +kernel)
set_option maxRecDepth 20000 in
theorem gX0_triangles_X0_contains : GoodIn wsX0_triangles (va_wsS RX0 40 yX0_contains wsX0_contains) := goodIn_app (goodIn_of _ (by decide +kernel)) ggX0_triangles_X0_contains
set_option maxRecDepth 20000 in
theorem ggX0_triangles_X0_size : GoodIn wsX0_triangles wsX0_size := goodIn_r _ [12, 13, 14, 15, 16, 17, 18, 19] (by decide +kernel) (by decide +kernel)
set_option maxRecDepth 20000 in
theorem gX0_triangles_X0_size : GoodIn wsX0_triangles (va_wsS RX0 63 yX0_size wsX0_size) := goodIn_app (goodIn_of _ (by decide +kernel)) ggX0_triangles_X0_size
theorem dX0_triangles_0 : decode cX0_triangles 0 = .ok (.iconst 0, 1) := by decide +kernel
theorem dX0_triangles_1 : decode cX0_triangles 1 = .ok (.istore_n 1, 1) := by decide +kernel
theorem dX0_triangles_2 : decode cX0_triangles 2 = .ok (.iconst 0, 1) := by decide +kernel
theorem dX0_triangles_3 : decode cX0_triangles 3 = .ok (.istore_n 2, 1) := by decide +kernel
theorem dX0_triangles_4 : decode cX0_triangles 4 = .ok (.iload_n 2, 1) := by decide +kernel
theorem dX0_triangles_5 : decode cX0_triangles 5 = .ok (.aload_n 0, 1) := by decide +kernel
theorem dX0_triangles_6 : decode cX0_triangles 6 = .ok (.getfield 19, 3) := by decide +kernel
theorem dX0_triangles_9 : decode cX0_triangles 9 = .ok (.if_icmp .ge 59, 3) := by decide +kernel
theorem dX0_triangles_12 : decode cX0_triangles 12 = .ok (.iload_n 2, 1) := by decide +kernel
theorem dX0_triangles_13 : decode cX0_triangles 13 = .ok (.iconst 1, 1) := by decide +kernel
theorem dX0_triangles_14 : decode cX0_triangles 14 = .ok (.iadd, 1) := by decide +kernel
theorem dX0_triangles_15 : decode cX0_triangles 15 = .ok (.istore_n 3, 1) := by decide +kernel
theorem dX0_triangles_16 : decode cX0_triangles 16 = .ok (.iload_n 3, 1) := by decide +kernel
theorem dX0_triangles_17 : decode cX0_triangles 17 = .ok (.aload_n 0, 1) := by decide +kernel
theorem dX0_triangles_18 : decode cX0_triangles 18 = .ok (.getfield 19, 3) := by decide +kernel
theorem dX0_triangles_21 : decode cX0_triangles 21 = .ok (.if_icmp .ge 41, 3) := by decide +kernel
theorem dX0_triangles_24 : decode cX0_triangles 24 = .ok (.aload_n 0, 1) := by decide +kernel
theorem dX0_triangles_25 : decode cX0_triangles 25 = .ok (.getfield 9, 3) := by decide +kernel
theorem dX0_triangles_28 : decode cX0_triangles 28 = .ok (.iload_n 2, 1) := by decide +kernel
theorem dX0_triangles_29 : decode cX0_triangles 29 = .ok (.iaload, 1) := by decide +kernel
theorem dX0_triangles_30 : decode cX0_triangles 30 = .ok (.iload_n 3, 1) := by decide +kernel
theorem dX0_triangles_31 : decode cX0_triangles 31 = .ok (.invokestatic 40, 3) := by decide +kernel
theorem dX0_triangles_34 : decode cX0_triangles 34 = .ok (.ifCond .eq 22, 3) := by decide +kernel
theorem dX0_triangles_37 : decode cX0_triangles 37 = .ok (.iload_n 1, 1) := by decide +kernel
theorem dX0_triangles_38 : decode cX0_triangles 38 = .ok (.aload_n 0, 1) := by decide +kernel
theorem dX0_triangles_39 : decode cX0_triangles 39 = .ok (.getfield 9, 3) := by decide +kernel
theorem dX0_triangles_42 : decode cX0_triangles 42 = .ok (.iload_n 2, 1) := by decide +kernel
theorem dX0_triangles_43 : decode cX0_triangles 43 = .ok (.iaload, 1) := by decide +kernel
theorem dX0_triangles_44 : decode cX0_triangles 44 = .ok (.aload_n 0, 1) := by decide +kernel
theorem dX0_triangles_45 : decode cX0_triangles 45 = .ok (.getfield 9, 3) := by decide +kernel
theorem dX0_triangles_48 : decode cX0_triangles 48 = .ok (.iload_n 3, 1) := by decide +kernel
theorem dX0_triangles_49 : decode cX0_triangles 49 = .ok (.iaload, 1) := by decide +kernel
theorem dX0_triangles_50 : decode cX0_triangles 50 = .ok (.iand, 1) := by decide +kernel
theorem dX0_triangles_51 : decode cX0_triangles 51 = .ok (.invokestatic 63, 3) := by decide +kernel
theorem dX0_triangles_54 : decode cX0_triangles 54 = .ok (.iadd, 1) := by decide +kernel
theorem dX0_triangles_55 : decode cX0_triangles 55 = .ok (.istore_n 1, 1) := by decide +kernel
theorem dX0_triangles_56 : decode cX0_triangles 56 = .ok (.iinc 3 1, 3) := by decide +kernel
theorem dX0_triangles_59 : decode cX0_triangles 59 = .ok (.goto (-43), 3) := by decide +kernel
theorem dX0_triangles_62 : decode cX0_triangles 62 = .ok (.iinc 2 1, 3) := by decide +kernel
theorem dX0_triangles_65 : decode cX0_triangles 65 = .ok (.goto (-61), 3) := by decide +kernel
theorem dX0_triangles_68 : decode cX0_triangles 68 = .ok (.iload_n 1, 1) := by decide +kernel
theorem dX0_triangles_69 : decode cX0_triangles 69 = .ok (.iconst 3, 1) := by decide +kernel
theorem dX0_triangles_70 : decode cX0_triangles 70 = .ok (.idiv, 1) := by decide +kernel
theorem dX0_triangles_71 : decode cX0_triangles 71 = .ok (.ireturn, 1) := by decide +kernel
set_option maxRecDepth 20000 in
theorem ggX0_truss_X0_checkNode : GoodIn wsX0_truss wsX0_checkNode := goodIn_ca (goodIn_r _ [6, 7, 8, 9, 48, 49, 50, 51, 52, 53] (by decide +kernel) (by decide +kernel)) (goodIn_sub (fun _ h => List.mem_cons_of_mem _ (List.mem_append_left _ (List.mem_append_right _ h))) (by decide +kernel))
set_option maxRecDepth 20000 in
theorem gX0_truss_X0_checkNode : GoodIn wsX0_truss (wsV RX0 59 RX0 yX0_checkNode wsX0_checkNode) := goodIn_app (goodIn_of _ (by decide +kernel)) ggX0_truss_X0_checkNode
set_option maxRecDepth 20000 in
theorem ggX0_truss_X0_checkEdge : GoodIn wsX0_truss wsX0_checkEdge := goodIn_ca (goodIn_r _ [13, 14, 15, 16, 17, 18, 5, 19, 20, 21, 22, 48, 49, 50, 51, 52, 53] (by decide +kernel) (by decide +kernel)) (goodIn_sub (fun _ h => List.mem_cons_of_mem _ (List.mem_append_right _ h)) (by decide +kernel))
set_option maxRecDepth 20000 in
theorem gX0_truss_X0_checkEdge : GoodIn wsX0_truss (wsV RX0 53 RX0 yX0_checkEdge wsX0_checkEdge) := goodIn_app (goodIn_of _ (by decide +kernel)) ggX0_truss_X0_checkEdge
set_option maxRecDepth 20000 in
theorem ggX0_truss_X0_startTrusses : GoodIn wsX0_truss wsX0_startTrusses := goodIn_r _ [26, 9, 1, 16, 48, 49, 50, 51, 52, 53] (by decide +kernel) (by decide +kernel)
set_option maxRecDepth 20000 in
theorem gX0_truss_X0_startTrusses : GoodIn wsX0_truss (wsV RX0 124 RX0 yX0_startTrusses wsX0_startTrusses) := goodIn_app (goodIn_of _ (by decide +kernel)) ggX0_truss_X0_startTrusses
set_option maxRecDepth 20000 in
theorem ggX0_truss_X0_shrinkToTruss : GoodIn wsX0_truss wsX0_shrinkToTruss := goodIn_r _ [30, 31, 32, 33, 5, 34, 9, 1, 17, 18, 19, 20, 21, 22, 35, 36, 37, 38, 39, 40, 41, 42, 43, 44, 45, 46, 47, 48, 49, 50, 51, 52, 53] (by decide +kernel) (by decide +kernel)
set_option maxRecDepth 20000 in
theorem gX0_truss_X0_shrinkToTruss : GoodIn wsX0_truss (wsV RX0 127 RX0 yX0_shrinkToTruss wsX0_shrinkToTruss) := goodIn_app (goodIn_of _ (by decide +kernel)) ggX0_truss_X0_shrinkToTruss
set_option maxRecDepth 20000 in
theorem ggX0_truss_X0_contains : GoodIn wsX0_truss wsX0_contains := goodIn_r _ [19, 20, 21, 5, 22] (by decide +kernel) (by decide +kernel)
set_option maxRecDepth 20000 in
theorem gX0_truss_X0_contains : GoodIn wsX0_truss (va_wsS RX0 40 yX0_contains wsX0_contains) := goodIn_app (goodIn_of _ (by decide +kernel)) ggX0_truss_X0_contains
theorem dX0_truss_0 : decode cX0_truss 0 = .ok (.aload_n 0, 1) := by decide +kernel
theorem dX0_truss_1 : decode cX0_truss 1 = .ok (.iload_n 1, 1) := by decide +kernel
theorem dX0_truss_2 : decode cX0_truss 2 = .ok (.invokevirtual 59, 3) := by decide +kernel
theorem dX0_truss_5 : decode cX0_truss 5 = .ok (.aload_n 0, 1) := by decide +kernel
theorem dX0_truss_6 : decode cX0_truss 6 = .ok (.iload_n 2, 1) := by decide +kernel
theorem dX0_truss_7 : decode cX0_truss 7 = .ok (.invokevirtual 59, 3) := by decide +kernel
theorem dX0_truss_10 : decode cX0_truss 10 = .ok (.aload_n 0, 1) := by decide +kernel
theorem dX0_truss_11 : decode cX0_truss 11 = .ok (.iload_n 1, 1) := by decide +kernel
theorem dX0_truss_12 : decode cX0_truss 12 = .ok (.iload_n 2, 1) := by decide +kernel
theorem dX0_truss_13 : decode cX0_truss 13 = .ok (.invokevirtual 53, 3) := by decide +kernel
theorem dX0_truss_16 : decode cX0_truss 16 = .ok (.aload_n 0, 1) := by decide +kernel
theorem dX0_truss_17 : decode cX0_truss 17 = .ok (.invokevirtual 124, 3) := by decide +kernel
theorem dX0_truss_20 : decode cX0_truss 20 = .ok (.iconst 2, 1) := by decide +kernel
theorem dX0_truss_21 : decode cX0_truss 21 = .ok (.istore_n 3, 1) := by decide +kernel
theorem dX0_truss_22 : decode cX0_truss 22 = .ok (.iconst 3, 1) := by decide +kernel
theorem dX0_truss_23 : decode cX0_truss 23 = .ok (.istore 4, 2) := by decide +kernel
theorem dX0_truss_25 : decode cX0_truss 25 = .ok (.iload 4, 2) := by decide +kernel
theorem dX0_truss_27 : decode cX0_truss 27 = .ok (.bipush 20, 2) := by decide +kernel
theorem dX0_truss_29 : decode cX0_truss 29 = .ok (.if_icmp .gt 31, 3) := by decide +kernel
theorem dX0_truss_32 : decode cX0_truss 32 = .ok (.aload_n 0, 1) := by decide +kernel
theorem dX0_truss_33 : decode cX0_truss 33 = .ok (.iload 4, 2) := by decide +kernel
theorem dX0_truss_35 : decode cX0_truss 35 = .ok (.invokevirtual 127, 3) := by decide +kernel
theorem dX0_truss_38 : decode cX0_truss 38 = .ok (.aload_n 0, 1) := by decide +kernel
theorem dX0_truss_39 : decode cX0_truss 39 = .ok (.getfield 16, 3) := by decide +kernel
theorem dX0_truss_42 : decode cX0_truss 42 = .ok (.iload_n 1, 1) := by decide +kernel
theorem dX0_truss_43 : decode cX0_truss 43 = .ok (.iaload, 1) := by decide +kernel
theorem dX0_truss_44 : decode cX0_truss 44 = .ok (.iload_n 2, 1) := by decide +kernel
theorem dX0_truss_45 : decode cX0_truss 45 = .ok (.invokestatic 40, 3) := by decide +kernel
theorem dX0_truss_48 : decode cX0_truss 48 = .ok (.ifCond .eq 6, 3) := by decide +kernel
theorem dX0_truss_51 : decode cX0_truss 51 = .ok (.iload 4, 2) := by decide +kernel
theorem dX0_truss_53 : decode cX0_truss 53 = .ok (.istore_n 3, 1) := by decide +kernel
theorem dX0_truss_54 : decode cX0_truss 54 = .ok (.iinc 4 1, 3) := by decide +kernel
theorem dX0_truss_57 : decode cX0_truss 57 = .ok (.goto (-32), 3) := by decide +kernel
theorem dX0_truss_60 : decode cX0_truss 60 = .ok (.iload_n 3, 1) := by decide +kernel
theorem dX0_truss_61 : decode cX0_truss 61 = .ok (.ireturn, 1) := by decide +kernel
set_option maxRecDepth 20000 in
theorem ggX0_trussSize_X0_startTrusses : GoodIn wsX0_trussSize wsX0_startTrusses := goodIn_r _ [9, 3, 4, 10, 38, 39, 40, 41, 42, 43] (by decide +kernel) (by decide +kernel)
set_option maxRecDepth 20000 in
theorem gX0_trussSize_X0_startTrusses : GoodIn wsX0_trussSize (wsV RX0 124 RX0 yX0_startTrusses wsX0_startTrusses) := goodIn_app (goodIn_of _ (by decide +kernel)) ggX0_trussSize_X0_startTrusses
set_option maxRecDepth 20000 in
theorem ggX0_trussSize_X0_shrinkToTruss : GoodIn wsX0_trussSize wsX0_shrinkToTruss := goodIn_r _ [14, 15, 16, 17, 8, 18, 3, 4, 19, 20, 21, 22, 23, 24, 25, 26, 27, 28, 29, 30, 31, 32, 33, 34, 35, 36, 37, 38, 39, 40, 41, 42, 43] (by decide +kernel) (by decide +kernel)
set_option maxRecDepth 20000 in
theorem gX0_trussSize_X0_shrinkToTruss : GoodIn wsX0_trussSize (wsV RX0 127 RX0 yX0_shrinkToTruss wsX0_shrinkToTruss) := goodIn_app (goodIn_of _ (by decide +kernel)) ggX0_trussSize_X0_shrinkToTruss
set_option maxRecDepth 20000 in
theorem ggX0_trussSize_X0_size : GoodIn wsX0_trussSize wsX0_size := goodIn_r _ [27, 28, 29, 30, 31, 32, 33, 34] (by decide +kernel) (by decide +kernel)
set_option maxRecDepth 20000 in
theorem gX0_trussSize_X0_size : GoodIn wsX0_trussSize (va_wsS RX0 63 yX0_size wsX0_size) := goodIn_app (goodIn_of _ (by decide +kernel)) ggX0_trussSize_X0_size
theorem dX0_trussSize_0 : decode cX0_trussSize 0 = .ok (.iload_n 1, 1) := by decide +kernel
theorem dX0_trussSize_1 : decode cX0_trussSize 1 = .ok (.iconst 2, 1) := by decide +kernel
theorem dX0_trussSize_2 : decode cX0_trussSize 2 = .ok (.if_icmp .ge 13, 3) := by decide +kernel
theorem dX0_trussSize_5 : decode cX0_trussSize 5 = .ok (.new 130, 3) := by decide +kernel
theorem dX0_trussSize_8 : decode cX0_trussSize 8 = .ok (.dup, 1) := by decide +kernel
theorem dX0_trussSize_9 : decode cX0_trussSize 9 = .ok (.ldc 132, 2) := by decide +kernel
theorem dX0_trussSize_11 : decode cX0_trussSize 11 = .ok (.invokespecial 134, 3) := by decide +kernel
theorem dX0_trussSize_14 : decode cX0_trussSize 14 = .ok (.athrow, 1) := by decide +kernel
theorem dX0_trussSize_15 : decode cX0_trussSize 15 = .ok (.aload_n 0, 1) := by decide +kernel
theorem dX0_trussSize_16 : decode cX0_trussSize 16 = .ok (.invokevirtual 124, 3) := by decide +kernel
theorem dX0_trussSize_19 : decode cX0_trussSize 19 = .ok (.aload_n 0, 1) := by decide +kernel
theorem dX0_trussSize_20 : decode cX0_trussSize 20 = .ok (.iload_n 1, 1) := by decide +kernel
theorem dX0_trussSize_21 : decode cX0_trussSize 21 = .ok (.invokevirtual 127, 3) := by decide +kernel
theorem dX0_trussSize_24 : decode cX0_trussSize 24 = .ok (.iconst 0, 1) := by decide +kernel
theorem dX0_trussSize_25 : decode cX0_trussSize 25 = .ok (.istore_n 2, 1) := by decide +kernel
theorem dX0_trussSize_26 : decode cX0_trussSize 26 = .ok (.iconst 0, 1) := by decide +kernel
theorem dX0_trussSize_27 : decode cX0_trussSize 27 = .ok (.istore_n 3, 1) := by decide +kernel
theorem dX0_trussSize_28 : decode cX0_trussSize 28 = .ok (.iload_n 3, 1) := by decide +kernel
theorem dX0_trussSize_29 : decode cX0_trussSize 29 = .ok (.aload_n 0, 1) := by decide +kernel
theorem dX0_trussSize_30 : decode cX0_trussSize 30 = .ok (.getfield 19, 3) := by decide +kernel
theorem dX0_trussSize_33 : decode cX0_trussSize 33 = .ok (.if_icmp .ge 21, 3) := by decide +kernel
theorem dX0_trussSize_36 : decode cX0_trussSize 36 = .ok (.iload_n 2, 1) := by decide +kernel
theorem dX0_trussSize_37 : decode cX0_trussSize 37 = .ok (.aload_n 0, 1) := by decide +kernel
theorem dX0_trussSize_38 : decode cX0_trussSize 38 = .ok (.getfield 16, 3) := by decide +kernel
theorem dX0_trussSize_41 : decode cX0_trussSize 41 = .ok (.iload_n 3, 1) := by decide +kernel
theorem dX0_trussSize_42 : decode cX0_trussSize 42 = .ok (.iaload, 1) := by decide +kernel
theorem dX0_trussSize_43 : decode cX0_trussSize 43 = .ok (.invokestatic 63, 3) := by decide +kernel
theorem dX0_trussSize_46 : decode cX0_trussSize 46 = .ok (.iadd, 1) := by decide +kernel
theorem dX0_trussSize_47 : decode cX0_trussSize 47 = .ok (.istore_n 2, 1) := by decide +kernel
theorem dX0_trussSize_48 : decode cX0_trussSize 48 = .ok (.iinc 3 1, 3) := by decide +kernel
theorem dX0_trussSize_51 : decode cX0_trussSize 51 = .ok (.goto (-23), 3) := by decide +kernel
theorem dX0_trussSize_54 : decode cX0_trussSize 54 = .ok (.iload_n 2, 1) := by decide +kernel
theorem dX0_trussSize_55 : decode cX0_trussSize 55 = .ok (.iconst 2, 1) := by decide +kernel
theorem dX0_trussSize_56 : decode cX0_trussSize 56 = .ok (.idiv, 1) := by decide +kernel
theorem dX0_trussSize_57 : decode cX0_trussSize 57 = .ok (.ireturn, 1) := by decide +kernel
theorem dX0_checkNode_0 : decode cX0_checkNode 0 = .ok (.iload_n 1, 1) := by decide +kernel
theorem dX0_checkNode_1 : decode cX0_checkNode 1 = .ok (.ifCond .lt 11, 3) := by decide +kernel
theorem dX0_checkNode_4 : decode cX0_checkNode 4 = .ok (.iload_n 1, 1) := by decide +kernel
theorem dX0_checkNode_5 : decode cX0_checkNode 5 = .ok (.aload_n 0, 1) := by decide +kernel
theorem dX0_checkNode_6 : decode cX0_checkNode 6 = .ok (.getfield 19, 3) := by decide +kernel
theorem dX0_checkNode_9 : decode cX0_checkNode 9 = .ok (.if_icmp .lt 13, 3) := by decide +kernel
theorem dX0_checkNode_12 : decode cX0_checkNode 12 = .ok (.new 67, 3) := by decide +kernel
theorem dX0_checkNode_15 : decode cX0_checkNode 15 = .ok (.dup, 1) := by decide +kernel
theorem dX0_checkNode_16 : decode cX0_checkNode 16 = .ok (.ldc 135, 2) := by decide +kernel
theorem dX0_checkNode_18 : decode cX0_checkNode 18 = .ok (.invokespecial 71, 3) := by decide +kernel
theorem dX0_checkNode_21 : decode cX0_checkNode 21 = .ok (.athrow, 1) := by decide +kernel
theorem dX0_checkNode_22 : decode cX0_checkNode 22 = .ok (.return_, 1) := by decide +kernel
set_option maxRecDepth 20000 in
theorem ggX0_checkPair_X0_checkNode : GoodIn wsX0_checkPair wsX0_checkNode := goodIn_ca (goodIn_r _ [7, 8, 9, 10, 11, 12, 13, 14, 15, 16] (by decide +kernel) (by decide +kernel)) (goodIn_sub (fun _ h => List.mem_cons_of_mem _ (List.mem_append_right _ h)) (by decide +kernel))
set_option maxRecDepth 20000 in
theorem gX0_checkPair_X0_checkNode : GoodIn wsX0_checkPair (wsV RX0 59 RX0 yX0_checkNode wsX0_checkNode) := goodIn_app (goodIn_of _ (by decide +kernel)) ggX0_checkPair_X0_checkNode
theorem dX0_checkPair_0 : decode cX0_checkPair 0 = .ok (.aload_n 0, 1) := by decide +kernel
theorem dX0_checkPair_1 : decode cX0_checkPair 1 = .ok (.iload_n 1, 1) := by decide +kernel
theorem dX0_checkPair_2 : decode cX0_checkPair 2 = .ok (.invokevirtual 59, 3) := by decide +kernel
theorem dX0_checkPair_5 : decode cX0_checkPair 5 = .ok (.aload_n 0, 1) := by decide +kernel
theorem dX0_checkPair_6 : decode cX0_checkPair 6 = .ok (.iload_n 2, 1) := by decide +kernel
theorem dX0_checkPair_7 : decode cX0_checkPair 7 = .ok (.invokevirtual 59, 3) := by decide +kernel
theorem dX0_checkPair_10 : decode cX0_checkPair 10 = .ok (.iload_n 1, 1) := by decide +kernel
theorem dX0_checkPair_11 : decode cX0_checkPair 11 = .ok (.iload_n 2, 1) := by decide +kernel
theorem dX0_checkPair_12 : decode cX0_checkPair 12 = .ok (.if_icmp .ne 13, 3) := by decide +kernel
theorem dX0_checkPair_15 : decode cX0_checkPair 15 = .ok (.new 130, 3) := by decide +kernel
theorem dX0_checkPair_18 : decode cX0_checkPair 18 = .ok (.dup, 1) := by decide +kernel
theorem dX0_checkPair_19 : decode cX0_checkPair 19 = .ok (.ldc 137, 2) := by decide +kernel
theorem dX0_checkPair_21 : decode cX0_checkPair 21 = .ok (.invokespecial 134, 3) := by decide +kernel
theorem dX0_checkPair_24 : decode cX0_checkPair 24 = .ok (.athrow, 1) := by decide +kernel
theorem dX0_checkPair_25 : decode cX0_checkPair 25 = .ok (.return_, 1) := by decide +kernel
set_option maxRecDepth 20000 in
theorem ggX0_checkEdge_X0_contains : GoodIn wsX0_checkEdge wsX0_contains := goodIn_r _ [7, 8, 9, 6, 10] (by decide +kernel) (by decide +kernel)
set_option maxRecDepth 20000 in
theorem gX0_checkEdge_X0_contains : GoodIn wsX0_checkEdge (va_wsS RX0 40 yX0_contains wsX0_contains) := goodIn_app (goodIn_of _ (by decide +kernel)) ggX0_checkEdge_X0_contains
theorem dX0_checkEdge_0 : decode cX0_checkEdge 0 = .ok (.aload_n 0, 1) := by decide +kernel
theorem dX0_checkEdge_1 : decode cX0_checkEdge 1 = .ok (.getfield 9, 3) := by decide +kernel
theorem dX0_checkEdge_4 : decode cX0_checkEdge 4 = .ok (.iload_n 1, 1) := by decide +kernel
theorem dX0_checkEdge_5 : decode cX0_checkEdge 5 = .ok (.iaload, 1) := by decide +kernel
theorem dX0_checkEdge_6 : decode cX0_checkEdge 6 = .ok (.iload_n 2, 1) := by decide +kernel
theorem dX0_checkEdge_7 : decode cX0_checkEdge 7 = .ok (.invokestatic 40, 3) := by decide +kernel
theorem dX0_checkEdge_10 : decode cX0_checkEdge 10 = .ok (.ifCond .ne 13, 3) := by decide +kernel
theorem dX0_checkEdge_13 : decode cX0_checkEdge 13 = .ok (.new 95, 3) := by decide +kernel
theorem dX0_checkEdge_16 : decode cX0_checkEdge 16 = .ok (.dup, 1) := by decide +kernel
theorem dX0_checkEdge_17 : decode cX0_checkEdge 17 = .ok (.ldc 139, 2) := by decide +kernel
theorem dX0_checkEdge_19 : decode cX0_checkEdge 19 = .ok (.invokespecial 99, 3) := by decide +kernel
theorem dX0_checkEdge_22 : decode cX0_checkEdge 22 = .ok (.athrow, 1) := by decide +kernel
theorem dX0_checkEdge_23 : decode cX0_checkEdge 23 = .ok (.return_, 1) := by decide +kernel
theorem dX0_checkLevel_0 : decode cX0_checkLevel 0 = .ok (.iload_n 0, 1) := by decide +kernel
theorem dX0_checkLevel_1 : decode cX0_checkLevel 1 = .ok (.ifCond .ge 13, 3) := by decide +kernel
theorem dX0_checkLevel_4 : decode cX0_checkLevel 4 = .ok (.new 130, 3) := by decide +kernel
theorem dX0_checkLevel_7 : decode cX0_checkLevel 7 = .ok (.dup, 1) := by decide +kernel
theorem dX0_checkLevel_8 : decode cX0_checkLevel 8 = .ok (.ldc 141, 2) := by decide +kernel
theorem dX0_checkLevel_10 : decode cX0_checkLevel 10 = .ok (.invokespecial 134, 3) := by decide +kernel
theorem dX0_checkLevel_13 : decode cX0_checkLevel 13 = .ok (.athrow, 1) := by decide +kernel
theorem dX0_checkLevel_14 : decode cX0_checkLevel 14 = .ok (.return_, 1) := by decide +kernel
theorem dX0_single_0 : decode cX0_single 0 = .ok (.iconst 1, 1) := by decide +kernel
theorem dX0_single_1 : decode cX0_single 1 = .ok (.iload_n 0, 1) := by decide +kernel
theorem dX0_single_2 : decode cX0_single 2 = .ok (.ishl, 1) := by decide +kernel
theorem dX0_single_3 : decode cX0_single 3 = .ok (.ireturn, 1) := by decide +kernel
set_option maxRecDepth 20000 in
theorem ggX0_contains_X0_single : GoodIn wsX0_contains wsX0_single := goodIn_r _ [4] (by decide +kernel) (by decide +kernel)
set_option maxRecDepth 20000 in
theorem gX0_contains_X0_single : GoodIn wsX0_contains (va_wsS RX0 83 yX0_single wsX0_single) := goodIn_app (goodIn_of _ (by decide +kernel)) ggX0_contains_X0_single
theorem dX0_contains_0 : decode cX0_contains 0 = .ok (.iload_n 0, 1) := by decide +kernel
theorem dX0_contains_1 : decode cX0_contains 1 = .ok (.iload_n 1, 1) := by decide +kernel
theorem dX0_contains_2 : decode cX0_contains 2 = .ok (.invokestatic 83, 3) := by decide +kernel
theorem dX0_contains_5 : decode cX0_contains 5 = .ok (.iand, 1) := by decide +kernel
theorem dX0_contains_6 : decode cX0_contains 6 = .ok (.ifCond .eq 7, 3) := by decide +kernel
theorem dX0_contains_9 : decode cX0_contains 9 = .ok (.iconst 1, 1) := by decide +kernel
theorem dX0_contains_10 : decode cX0_contains 10 = .ok (.goto 4, 3) := by decide +kernel
theorem dX0_contains_13 : decode cX0_contains 13 = .ok (.iconst 0, 1) := by decide +kernel
theorem dX0_contains_14 : decode cX0_contains 14 = .ok (.ireturn, 1) := by decide +kernel
set_option maxRecDepth 20000 in
theorem ggX0_with_X0_single : GoodIn wsX0_with wsX0_single := goodIn_r _ [4] (by decide +kernel) (by decide +kernel)
set_option maxRecDepth 20000 in
theorem gX0_with_X0_single : GoodIn wsX0_with (va_wsS RX0 83 yX0_single wsX0_single) := goodIn_app (goodIn_of _ (by decide +kernel)) ggX0_with_X0_single
theorem dX0_with_0 : decode cX0_with 0 = .ok (.iload_n 0, 1) := by decide +kernel
theorem dX0_with_1 : decode cX0_with 1 = .ok (.iload_n 1, 1) := by decide +kernel
theorem dX0_with_2 : decode cX0_with 2 = .ok (.invokestatic 83, 3) := by decide +kernel
theorem dX0_with_5 : decode cX0_with 5 = .ok (.ior, 1) := by decide +kernel
theorem dX0_with_6 : decode cX0_with 6 = .ok (.ireturn, 1) := by decide +kernel
set_option maxRecDepth 20000 in
theorem ggX0_without_X0_single : GoodIn wsX0_without wsX0_single := goodIn_r _ [4] (by decide +kernel) (by decide +kernel)
set_option maxRecDepth 20000 in
theorem gX0_without_X0_single : GoodIn wsX0_without (va_wsS RX0 83 yX0_single wsX0_single) := goodIn_app (goodIn_of _ (by decide +kernel)) ggX0_without_X0_single
theorem dX0_without_0 : decode cX0_without 0 = .ok (.iload_n 0, 1) := by decide +kernel
theorem dX0_without_1 : decode cX0_without 1 = .ok (.iload_n 1, 1) := by decide +kernel
theorem dX0_without_2 : decode cX0_without 2 = .ok (.invokestatic 83, 3) := by decide +kernel
theorem dX0_without_5 : decode cX0_without 5 = .ok (.iconst (-1), 1) := by decide +kernel
theorem dX0_without_6 : decode cX0_without 6 = .ok (.ixor, 1) := by decide +kernel
theorem dX0_without_7 : decode cX0_without 7 = .ok (.iand, 1) := by decide +kernel
theorem dX0_without_8 : decode cX0_without 8 = .ok (.ireturn, 1) := by decide +kernel
set_option maxRecDepth 20000 in
theorem ggX0_size_J6_bitCount_0f7a4 : GoodIn wsX0_size wsJ6_bitCount_0f7a4 := goodIn_r _ [4, 5, 6, 7] (by decide +kernel) (by decide +kernel)
set_option maxRecDepth 20000 in
theorem gX0_size_J6_bitCount_0f7a4 : GoodIn wsX0_size (va_wsS RX0 143 yJ6_bitCount_0f7a4 wsJ6_bitCount_0f7a4) := goodIn_app (goodIn_of _ (by decide +kernel)) ggX0_size_J6_bitCount_0f7a4
theorem dX0_size_0 : decode cX0_size 0 = .ok (.iload_n 0, 1) := by decide +kernel
theorem dX0_size_1 : decode cX0_size 1 = .ok (.invokestatic 143, 3) := by decide +kernel
theorem dX0_size_4 : decode cX0_size 4 = .ok (.ireturn, 1) := by decide +kernel
set_option maxRecDepth 20000 in
theorem ggX0_allNodes_X0_single : GoodIn wsX0_allNodes wsX0_single := goodIn_r _ [5] (by decide +kernel) (by decide +kernel)
set_option maxRecDepth 20000 in
theorem gX0_allNodes_X0_single : GoodIn wsX0_allNodes (va_wsS RX0 83 yX0_single wsX0_single) := goodIn_app (goodIn_of _ (by decide +kernel)) ggX0_allNodes_X0_single
theorem dX0_allNodes_0 : decode cX0_allNodes 0 = .ok (.aload_n 0, 1) := by decide +kernel
theorem dX0_allNodes_1 : decode cX0_allNodes 1 = .ok (.getfield 19, 3) := by decide +kernel
theorem dX0_allNodes_4 : decode cX0_allNodes 4 = .ok (.invokestatic 83, 3) := by decide +kernel
theorem dX0_allNodes_7 : decode cX0_allNodes 7 = .ok (.iconst 1, 1) := by decide +kernel
theorem dX0_allNodes_8 : decode cX0_allNodes 8 = .ok (.isub, 1) := by decide +kernel
theorem dX0_allNodes_9 : decode cX0_allNodes 9 = .ok (.ireturn, 1) := by decide +kernel
set_option maxRecDepth 20000 in
theorem ggX0_coreSet_X0_with : GoodIn wsX0_coreSet wsX0_with := goodIn_r _ [6, 7, 8, 5, 9] (by decide +kernel) (by decide +kernel)
set_option maxRecDepth 20000 in
theorem gX0_coreSet_X0_with : GoodIn wsX0_coreSet (va_wsS RX0 46 yX0_with wsX0_with) := goodIn_app (goodIn_of _ (by decide +kernel)) ggX0_coreSet_X0_with
theorem dX0_coreSet_0 : decode cX0_coreSet 0 = .ok (.iconst 0, 1) := by decide +kernel
theorem dX0_coreSet_1 : decode cX0_coreSet 1 = .ok (.istore_n 2, 1) := by decide +kernel
theorem dX0_coreSet_2 : decode cX0_coreSet 2 = .ok (.iconst 0, 1) := by decide +kernel
theorem dX0_coreSet_3 : decode cX0_coreSet 3 = .ok (.istore_n 3, 1) := by decide +kernel
theorem dX0_coreSet_4 : decode cX0_coreSet 4 = .ok (.iload_n 3, 1) := by decide +kernel
theorem dX0_coreSet_5 : decode cX0_coreSet 5 = .ok (.aload_n 0, 1) := by decide +kernel
theorem dX0_coreSet_6 : decode cX0_coreSet 6 = .ok (.getfield 19, 3) := by decide +kernel
theorem dX0_coreSet_9 : decode cX0_coreSet 9 = .ok (.if_icmp .ge 25, 3) := by decide +kernel
theorem dX0_coreSet_12 : decode cX0_coreSet 12 = .ok (.aload_n 0, 1) := by decide +kernel
theorem dX0_coreSet_13 : decode cX0_coreSet 13 = .ok (.getfield 13, 3) := by decide +kernel
theorem dX0_coreSet_16 : decode cX0_coreSet 16 = .ok (.iload_n 3, 1) := by decide +kernel
theorem dX0_coreSet_17 : decode cX0_coreSet 17 = .ok (.iaload, 1) := by decide +kernel
theorem dX0_coreSet_18 : decode cX0_coreSet 18 = .ok (.iload_n 1, 1) := by decide +kernel
theorem dX0_coreSet_19 : decode cX0_coreSet 19 = .ok (.if_icmp .lt 9, 3) := by decide +kernel
theorem dX0_coreSet_22 : decode cX0_coreSet 22 = .ok (.iload_n 2, 1) := by decide +kernel
theorem dX0_coreSet_23 : decode cX0_coreSet 23 = .ok (.iload_n 3, 1) := by decide +kernel
theorem dX0_coreSet_24 : decode cX0_coreSet 24 = .ok (.invokestatic 46, 3) := by decide +kernel
theorem dX0_coreSet_27 : decode cX0_coreSet 27 = .ok (.istore_n 2, 1) := by decide +kernel
theorem dX0_coreSet_28 : decode cX0_coreSet 28 = .ok (.iinc 3 1, 3) := by decide +kernel
theorem dX0_coreSet_31 : decode cX0_coreSet 31 = .ok (.goto (-27), 3) := by decide +kernel
theorem dX0_coreSet_34 : decode cX0_coreSet 34 = .ok (.iload_n 2, 1) := by decide +kernel
theorem dX0_coreSet_35 : decode cX0_coreSet 35 = .ok (.ireturn, 1) := by decide +kernel
set_option maxRecDepth 20000 in
theorem ggX0_shellSet_X0_coreSet : GoodIn wsX0_shellSet wsX0_coreSet := goodIn_r _ [5, 6, 7, 8, 9, 4, 10, 11, 12, 13, 14, 15, 16, 17, 18, 19] (by decide +kernel) (by decide +kernel)
set_option maxRecDepth 20000 in
theorem gX0_shellSet_X0_coreSet : GoodIn wsX0_shellSet (wsV RX0 80 RX0 yX0_coreSet wsX0_coreSet) := goodIn_app (goodIn_of _ (by decide +kernel)) ggX0_shellSet_X0_coreSet
theorem dX0_shellSet_0 : decode cX0_shellSet 0 = .ok (.aload_n 0, 1) := by decide +kernel
theorem dX0_shellSet_1 : decode cX0_shellSet 1 = .ok (.iload_n 1, 1) := by decide +kernel
theorem dX0_shellSet_2 : decode cX0_shellSet 2 = .ok (.invokevirtual 80, 3) := by decide +kernel
theorem dX0_shellSet_5 : decode cX0_shellSet 5 = .ok (.aload_n 0, 1) := by decide +kernel
theorem dX0_shellSet_6 : decode cX0_shellSet 6 = .ok (.iload_n 1, 1) := by decide +kernel
theorem dX0_shellSet_7 : decode cX0_shellSet 7 = .ok (.iconst 1, 1) := by decide +kernel
theorem dX0_shellSet_8 : decode cX0_shellSet 8 = .ok (.iadd, 1) := by decide +kernel
theorem dX0_shellSet_9 : decode cX0_shellSet 9 = .ok (.invokevirtual 80, 3) := by decide +kernel
theorem dX0_shellSet_12 : decode cX0_shellSet 12 = .ok (.iconst (-1), 1) := by decide +kernel
theorem dX0_shellSet_13 : decode cX0_shellSet 13 = .ok (.ixor, 1) := by decide +kernel
theorem dX0_shellSet_14 : decode cX0_shellSet 14 = .ok (.iand, 1) := by decide +kernel
theorem dX0_shellSet_15 : decode cX0_shellSet 15 = .ok (.ireturn, 1) := by decide +kernel
set_option maxRecDepth 20000 in
theorem ggX0_edgesWithin_X0_contains : GoodIn wsX0_edgesWithin wsX0_contains := goodIn_r _ [6, 7, 8, 5, 9] (by decide +kernel) (by decide +kernel)
set_option maxRecDepth 20000 in
theorem gX0_edgesWithin_X0_contains : GoodIn wsX0_edgesWithin (va_wsS RX0 40 yX0_contains wsX0_contains) := goodIn_app (goodIn_of _ (by decide +kernel)) ggX0_edgesWithin_X0_contains
set_option maxRecDepth 20000 in
theorem ggX0_edgesWithin_X0_size : GoodIn wsX0_edgesWithin wsX0_size := goodIn_r _ [12, 13, 14, 15, 16, 17, 18, 19] (by decide +kernel) (by decide +kernel)
set_option maxRecDepth 20000 in
theorem gX0_edgesWithin_X0_size : GoodIn wsX0_edgesWithin (va_wsS RX0 63 yX0_size wsX0_size) := goodIn_app (goodIn_of _ (by decide +kernel)) ggX0_edgesWithin_X0_size
theorem dX0_edgesWithin_0 : decode cX0_edgesWithin 0 = .ok (.iconst 0, 1) := by decide +kernel
theorem dX0_edgesWithin_1 : decode cX0_edgesWithin 1 = .ok (.istore_n 2, 1) := by decide +kernel
theorem dX0_edgesWithin_2 : decode cX0_edgesWithin 2 = .ok (.iconst 0, 1) := by decide +kernel
theorem dX0_edgesWithin_3 : decode cX0_edgesWithin 3 = .ok (.istore_n 3, 1) := by decide +kernel
theorem dX0_edgesWithin_4 : decode cX0_edgesWithin 4 = .ok (.iload_n 3, 1) := by decide +kernel
theorem dX0_edgesWithin_5 : decode cX0_edgesWithin 5 = .ok (.aload_n 0, 1) := by decide +kernel
theorem dX0_edgesWithin_6 : decode cX0_edgesWithin 6 = .ok (.getfield 19, 3) := by decide +kernel
theorem dX0_edgesWithin_9 : decode cX0_edgesWithin 9 = .ok (.if_icmp .ge 31, 3) := by decide +kernel
theorem dX0_edgesWithin_12 : decode cX0_edgesWithin 12 = .ok (.iload_n 1, 1) := by decide +kernel
theorem dX0_edgesWithin_13 : decode cX0_edgesWithin 13 = .ok (.iload_n 3, 1) := by decide +kernel
theorem dX0_edgesWithin_14 : decode cX0_edgesWithin 14 = .ok (.invokestatic 40, 3) := by decide +kernel
theorem dX0_edgesWithin_17 : decode cX0_edgesWithin 17 = .ok (.ifCond .eq 17, 3) := by decide +kernel
theorem dX0_edgesWithin_20 : decode cX0_edgesWithin 20 = .ok (.iload_n 2, 1) := by decide +kernel
theorem dX0_edgesWithin_21 : decode cX0_edgesWithin 21 = .ok (.aload_n 0, 1) := by decide +kernel
theorem dX0_edgesWithin_22 : decode cX0_edgesWithin 22 = .ok (.getfield 9, 3) := by decide +kernel
theorem dX0_edgesWithin_25 : decode cX0_edgesWithin 25 = .ok (.iload_n 3, 1) := by decide +kernel
theorem dX0_edgesWithin_26 : decode cX0_edgesWithin 26 = .ok (.iaload, 1) := by decide +kernel
theorem dX0_edgesWithin_27 : decode cX0_edgesWithin 27 = .ok (.iload_n 1, 1) := by decide +kernel
theorem dX0_edgesWithin_28 : decode cX0_edgesWithin 28 = .ok (.iand, 1) := by decide +kernel
theorem dX0_edgesWithin_29 : decode cX0_edgesWithin 29 = .ok (.invokestatic 63, 3) := by decide +kernel
theorem dX0_edgesWithin_32 : decode cX0_edgesWithin 32 = .ok (.iadd, 1) := by decide +kernel
theorem dX0_edgesWithin_33 : decode cX0_edgesWithin 33 = .ok (.istore_n 2, 1) := by decide +kernel
theorem dX0_edgesWithin_34 : decode cX0_edgesWithin 34 = .ok (.iinc 3 1, 3) := by decide +kernel
theorem dX0_edgesWithin_37 : decode cX0_edgesWithin 37 = .ok (.goto (-33), 3) := by decide +kernel
theorem dX0_edgesWithin_40 : decode cX0_edgesWithin 40 = .ok (.iload_n 2, 1) := by decide +kernel
theorem dX0_edgesWithin_41 : decode cX0_edgesWithin 41 = .ok (.iconst 2, 1) := by decide +kernel
theorem dX0_edgesWithin_42 : decode cX0_edgesWithin 42 = .ok (.idiv, 1) := by decide +kernel
theorem dX0_edgesWithin_43 : decode cX0_edgesWithin 43 = .ok (.ireturn, 1) := by decide +kernel
set_option maxRecDepth 20000 in
theorem ggX0_reach_X0_contains : GoodIn wsX0_reach wsX0_contains := goodIn_r _ [6, 7, 8, 5, 9] (by decide +kernel) (by decide +kernel)
set_option maxRecDepth 20000 in
theorem gX0_reach_X0_contains : GoodIn wsX0_reach (va_wsS RX0 40 yX0_contains wsX0_contains) := goodIn_app (goodIn_of _ (by decide +kernel)) ggX0_reach_X0_contains
theorem dX0_reach_0 : decode cX0_reach 0 = .ok (.iload_n 1, 1) := by decide +kernel
theorem dX0_reach_1 : decode cX0_reach 1 = .ok (.iload_n 2, 1) := by decide +kernel
theorem dX0_reach_2 : decode cX0_reach 2 = .ok (.iand, 1) := by decide +kernel
theorem dX0_reach_3 : decode cX0_reach 3 = .ok (.istore_n 3, 1) := by decide +kernel
theorem dX0_reach_4 : decode cX0_reach 4 = .ok (.iconst 0, 1) := by decide +kernel
theorem dX0_reach_5 : decode cX0_reach 5 = .ok (.istore 4, 2) := by decide +kernel
theorem dX0_reach_7 : decode cX0_reach 7 = .ok (.iload 4, 2) := by decide +kernel
theorem dX0_reach_9 : decode cX0_reach 9 = .ok (.aload_n 0, 1) := by decide +kernel
theorem dX0_reach_10 : decode cX0_reach 10 = .ok (.getfield 19, 3) := by decide +kernel
theorem dX0_reach_13 : decode cX0_reach 13 = .ok (.if_icmp .ge 64, 3) := by decide +kernel
theorem dX0_reach_16 : decode cX0_reach 16 = .ok (.iload_n 3, 1) := by decide +kernel
theorem dX0_reach_17 : decode cX0_reach 17 = .ok (.istore 5, 2) := by decide +kernel
theorem dX0_reach_19 : decode cX0_reach 19 = .ok (.iconst 0, 1) := by decide +kernel
theorem dX0_reach_20 : decode cX0_reach 20 = .ok (.istore 6, 2) := by decide +kernel
theorem dX0_reach_22 : decode cX0_reach 22 = .ok (.iload 6, 2) := by decide +kernel
theorem dX0_reach_24 : decode cX0_reach 24 = .ok (.aload_n 0, 1) := by decide +kernel
theorem dX0_reach_25 : decode cX0_reach 25 = .ok (.getfield 19, 3) := by decide +kernel
theorem dX0_reach_28 : decode cX0_reach 28 = .ok (.if_icmp .ge 32, 3) := by decide +kernel
theorem dX0_reach_31 : decode cX0_reach 31 = .ok (.iload_n 3, 1) := by decide +kernel
theorem dX0_reach_32 : decode cX0_reach 32 = .ok (.iload 6, 2) := by decide +kernel
theorem dX0_reach_34 : decode cX0_reach 34 = .ok (.invokestatic 40, 3) := by decide +kernel
theorem dX0_reach_37 : decode cX0_reach 37 = .ok (.ifCond .eq 17, 3) := by decide +kernel
theorem dX0_reach_40 : decode cX0_reach 40 = .ok (.iload 5, 2) := by decide +kernel
theorem dX0_reach_42 : decode cX0_reach 42 = .ok (.aload_n 0, 1) := by decide +kernel
theorem dX0_reach_43 : decode cX0_reach 43 = .ok (.getfield 9, 3) := by decide +kernel
theorem dX0_reach_46 : decode cX0_reach 46 = .ok (.iload 6, 2) := by decide +kernel
theorem dX0_reach_48 : decode cX0_reach 48 = .ok (.iaload, 1) := by decide +kernel
theorem dX0_reach_49 : decode cX0_reach 49 = .ok (.iload_n 2, 1) := by decide +kernel
theorem dX0_reach_50 : decode cX0_reach 50 = .ok (.iand, 1) := by decide +kernel
theorem dX0_reach_51 : decode cX0_reach 51 = .ok (.ior, 1) := by decide +kernel
theorem dX0_reach_52 : decode cX0_reach 52 = .ok (.istore 5, 2) := by decide +kernel
theorem dX0_reach_54 : decode cX0_reach 54 = .ok (.iinc 6 1, 3) := by decide +kernel
theorem dX0_reach_57 : decode cX0_reach 57 = .ok (.goto (-35), 3) := by decide +kernel
theorem dX0_reach_60 : decode cX0_reach 60 = .ok (.iload 5, 2) := by decide +kernel
theorem dX0_reach_62 : decode cX0_reach 62 = .ok (.iload_n 3, 1) := by decide +kernel
theorem dX0_reach_63 : decode cX0_reach 63 = .ok (.if_icmp .ne 5, 3) := by decide +kernel
theorem dX0_reach_66 : decode cX0_reach 66 = .ok (.iload_n 3, 1) := by decide +kernel
theorem dX0_reach_67 : decode cX0_reach 67 = .ok (.ireturn, 1) := by decide +kernel
theorem dX0_reach_68 : decode cX0_reach 68 = .ok (.iload 5, 2) := by decide +kernel
theorem dX0_reach_70 : decode cX0_reach 70 = .ok (.istore_n 3, 1) := by decide +kernel
theorem dX0_reach_71 : decode cX0_reach 71 = .ok (.iinc 4 1, 3) := by decide +kernel
theorem dX0_reach_74 : decode cX0_reach 74 = .ok (.goto (-67), 3) := by decide +kernel
theorem dX0_reach_77 : decode cX0_reach 77 = .ok (.iload_n 3, 1) := by decide +kernel
theorem dX0_reach_78 : decode cX0_reach 78 = .ok (.ireturn, 1) := by decide +kernel
set_option maxRecDepth 20000 in
theorem ggX0_raiseCores_X0_nearShell : GoodIn wsX0_raiseCores wsX0_nearShell := goodIn_r _ [10, 11, 12, 9, 13, 14, 15, 16, 17, 18, 19, 20, 21, 22, 23, 24, 25, 1, 26, 27, 28, 29, 30, 31, 32, 33, 56, 57, 58, 59, 60, 61] (by decide +kernel) (by decide +kernel)
set_option maxRecDepth 20000 in
theorem gX0_raiseCores_X0_nearShell : GoodIn wsX0_raiseCores (wsV RX0 148 RX0 yX0_nearShell wsX0_nearShell) := goodIn_app (goodIn_of _ (by decide +kernel)) ggX0_raiseCores_X0_nearShell
set_option maxRecDepth 20000 in
theorem ggX0_raiseCores_X0_coreSet : GoodIn wsX0_raiseCores wsX0_coreSet := goodIn_r _ [24, 25, 1, 14, 15, 9, 16, 11, 12, 13, 56, 57, 58, 59, 60, 61] (by decide +kernel) (by decide +kernel)
set_option maxRecDepth 20000 in
theorem gX0_raiseCores_X0_coreSet : GoodIn wsX0_raiseCores (wsV RX0 80 RX0 yX0_coreSet wsX0_coreSet) := goodIn_app (goodIn_of _ (by decide +kernel)) ggX0_raiseCores_X0_coreSet
set_option maxRecDepth 20000 in
theorem ggX0_raiseCores_X0_supportedPart : GoodIn wsX0_raiseCores wsX0_supportedPart := goodIn_r _ [37, 25, 30, 31, 32, 9, 33, 11, 12, 13, 38, 39, 40, 41, 42, 43, 44, 45, 46, 47, 48, 49, 50, 56, 57, 58, 59, 60, 61] (by decide +kernel) (by decide +kernel)
set_option maxRecDepth 20000 in
theorem gX0_raiseCores_X0_supportedPart : GoodIn wsX0_raiseCores (wsV RX0 152 RX0 yX0_supportedPart wsX0_supportedPart) := goodIn_app (goodIn_of _ (by decide +kernel)) ggX0_raiseCores_X0_supportedPart
set_option maxRecDepth 20000 in
theorem ggX0_raiseCores_X0_changeCores : GoodIn wsX0_raiseCores wsX0_changeCores := goodIn_r _ [54, 25, 1, 55, 31, 32, 9, 33, 11, 12, 13, 38, 39, 40, 41, 42, 43, 44, 45, 46, 47, 56, 57, 58, 59, 60, 61] (by decide +kernel) (by decide +kernel)
set_option maxRecDepth 20000 in
theorem gX0_raiseCores_X0_changeCores : GoodIn wsX0_raiseCores (wsV RX0 155 RX0 yX0_changeCores wsX0_changeCores) := goodIn_app (goodIn_of _ (by decide +kernel)) ggX0_raiseCores_X0_changeCores
theorem dX0_raiseCores_0 : decode cX0_raiseCores 0 = .ok (.aload_n 0, 1) := by decide +kernel
theorem dX0_raiseCores_1 : decode cX0_raiseCores 1 = .ok (.getfield 13, 3) := by decide +kernel
theorem dX0_raiseCores_4 : decode cX0_raiseCores 4 = .ok (.iload_n 1, 1) := by decide +kernel
theorem dX0_raiseCores_5 : decode cX0_raiseCores 5 = .ok (.iaload, 1) := by decide +kernel
theorem dX0_raiseCores_6 : decode cX0_raiseCores 6 = .ok (.aload_n 0, 1) := by decide +kernel
theorem dX0_raiseCores_7 : decode cX0_raiseCores 7 = .ok (.getfield 13, 3) := by decide +kernel
theorem dX0_raiseCores_10 : decode cX0_raiseCores 10 = .ok (.iload_n 2, 1) := by decide +kernel
theorem dX0_raiseCores_11 : decode cX0_raiseCores 11 = .ok (.iaload, 1) := by decide +kernel
theorem dX0_raiseCores_12 : decode cX0_raiseCores 12 = .ok (.invokestatic 92, 3) := by decide +kernel
theorem dX0_raiseCores_15 : decode cX0_raiseCores 15 = .ok (.istore_n 3, 1) := by decide +kernel
theorem dX0_raiseCores_16 : decode cX0_raiseCores 16 = .ok (.aload_n 0, 1) := by decide +kernel
theorem dX0_raiseCores_17 : decode cX0_raiseCores 17 = .ok (.iload_n 1, 1) := by decide +kernel
theorem dX0_raiseCores_18 : decode cX0_raiseCores 18 = .ok (.iload_n 2, 1) := by decide +kernel
theorem dX0_raiseCores_19 : decode cX0_raiseCores 19 = .ok (.iload_n 3, 1) := by decide +kernel
theorem dX0_raiseCores_20 : decode cX0_raiseCores 20 = .ok (.invokevirtual 148, 3) := by decide +kernel
theorem dX0_raiseCores_23 : decode cX0_raiseCores 23 = .ok (.istore 4, 2) := by decide +kernel
theorem dX0_raiseCores_25 : decode cX0_raiseCores 25 = .ok (.aload_n 0, 1) := by decide +kernel
theorem dX0_raiseCores_26 : decode cX0_raiseCores 26 = .ok (.aload_n 0, 1) := by decide +kernel
theorem dX0_raiseCores_27 : decode cX0_raiseCores 27 = .ok (.iload 4, 2) := by decide +kernel
theorem dX0_raiseCores_29 : decode cX0_raiseCores 29 = .ok (.aload_n 0, 1) := by decide +kernel
theorem dX0_raiseCores_30 : decode cX0_raiseCores 30 = .ok (.iload_n 3, 1) := by decide +kernel
theorem dX0_raiseCores_31 : decode cX0_raiseCores 31 = .ok (.iconst 1, 1) := by decide +kernel
theorem dX0_raiseCores_32 : decode cX0_raiseCores 32 = .ok (.iadd, 1) := by decide +kernel
theorem dX0_raiseCores_33 : decode cX0_raiseCores 33 = .ok (.invokevirtual 80, 3) := by decide +kernel
theorem dX0_raiseCores_36 : decode cX0_raiseCores 36 = .ok (.iload_n 3, 1) := by decide +kernel
theorem dX0_raiseCores_37 : decode cX0_raiseCores 37 = .ok (.iconst 1, 1) := by decide +kernel
theorem dX0_raiseCores_38 : decode cX0_raiseCores 38 = .ok (.iadd, 1) := by decide +kernel
theorem dX0_raiseCores_39 : decode cX0_raiseCores 39 = .ok (.invokevirtual 152, 3) := by decide +kernel
theorem dX0_raiseCores_42 : decode cX0_raiseCores 42 = .ok (.iconst 1, 1) := by decide +kernel
theorem dX0_raiseCores_43 : decode cX0_raiseCores 43 = .ok (.invokevirtual 155, 3) := by decide +kernel
theorem dX0_raiseCores_46 : decode cX0_raiseCores 46 = .ok (.ireturn, 1) := by decide +kernel
set_option maxRecDepth 20000 in
theorem ggX0_cutEdge_X0_without : GoodIn wsX0_cutEdge wsX0_without := goodIn_r _ [11, 12, 13, 10, 14] (by decide +kernel) (by decide +kernel)
set_option maxRecDepth 20000 in
theorem gX0_cutEdge_X0_without : GoodIn wsX0_cutEdge (va_wsS RX0 115 yX0_without wsX0_without) := goodIn_app (goodIn_of _ (by decide +kernel)) ggX0_cutEdge_X0_without
set_option maxRecDepth 20000 in
theorem ggX0_cutEdge_X0_nearShell : GoodIn wsX0_cutEdge wsX0_nearShell := goodIn_r _ [18, 12, 13, 10, 14, 19, 20, 21, 22, 23, 24, 25, 26, 27, 28, 29, 30, 1, 31, 32, 33, 34, 6, 35, 36, 37, 57, 58, 59, 60, 61, 62] (by decide +kernel) (by decide +kernel)
set_option maxRecDepth 20000 in
theorem gX0_cutEdge_X0_nearShell : GoodIn wsX0_cutEdge (wsV RX0 148 RX0 yX0_nearShell wsX0_nearShell) := goodIn_app (goodIn_of _ (by decide +kernel)) ggX0_cutEdge_X0_nearShell
set_option maxRecDepth 20000 in
theorem ggX0_cutEdge_X0_coreSet : GoodIn wsX0_cutEdge wsX0_coreSet := goodIn_r _ [29, 30, 1, 19, 20, 10, 21, 12, 13, 14, 57, 58, 59, 60, 61, 62] (by decide +kernel) (by decide +kernel)
set_option maxRecDepth 20000 in
theorem gX0_cutEdge_X0_coreSet : GoodIn wsX0_cutEdge (wsV RX0 80 RX0 yX0_coreSet wsX0_coreSet) := goodIn_app (goodIn_of _ (by decide +kernel)) ggX0_cutEdge_X0_coreSet
set_option maxRecDepth 20000 in
theorem ggX0_cutEdge_X0_supportedPart : GoodIn wsX0_cutEdge wsX0_supportedPart := goodIn_r _ [41, 30, 6, 35, 36, 10, 37, 12, 13, 14, 42, 43, 44, 45, 46, 47, 48, 49, 50, 51, 8, 9, 11, 57, 58, 59, 60, 61, 62] (by decide +kernel) (by decide +kernel)
set_option maxRecDepth 20000 in
theorem gX0_cutEdge_X0_supportedPart : GoodIn wsX0_cutEdge (wsV RX0 152 RX0 yX0_supportedPart wsX0_supportedPart) := goodIn_app (goodIn_of _ (by decide +kernel)) ggX0_cutEdge_X0_supportedPart
set_option maxRecDepth 20000 in
theorem ggX0_cutEdge_X0_changeCores : GoodIn wsX0_cutEdge wsX0_changeCores := goodIn_r _ [55, 30, 1, 56, 35, 36, 10, 37, 12, 13, 14, 42, 43, 44, 45, 46, 47, 48, 49, 50, 51, 57, 58, 59, 60, 61, 62] (by decide +kernel) (by decide +kernel)
set_option maxRecDepth 20000 in
theorem gX0_cutEdge_X0_changeCores : GoodIn wsX0_cutEdge (wsV RX0 155 RX0 yX0_changeCores wsX0_changeCores) := goodIn_app (goodIn_of _ (by decide +kernel)) ggX0_cutEdge_X0_changeCores
theorem dX0_cutEdge_0 : decode cX0_cutEdge 0 = .ok (.aload_n 0, 1) := by decide +kernel
theorem dX0_cutEdge_1 : decode cX0_cutEdge 1 = .ok (.getfield 13, 3) := by decide +kernel
theorem dX0_cutEdge_4 : decode cX0_cutEdge 4 = .ok (.iload_n 1, 1) := by decide +kernel
theorem dX0_cutEdge_5 : decode cX0_cutEdge 5 = .ok (.iaload, 1) := by decide +kernel
theorem dX0_cutEdge_6 : decode cX0_cutEdge 6 = .ok (.aload_n 0, 1) := by decide +kernel
theorem dX0_cutEdge_7 : decode cX0_cutEdge 7 = .ok (.getfield 13, 3) := by decide +kernel
theorem dX0_cutEdge_10 : decode cX0_cutEdge 10 = .ok (.iload_n 2, 1) := by decide +kernel
theorem dX0_cutEdge_11 : decode cX0_cutEdge 11 = .ok (.iaload, 1) := by decide +kernel
theorem dX0_cutEdge_12 : decode cX0_cutEdge 12 = .ok (.invokestatic 92, 3) := by decide +kernel
theorem dX0_cutEdge_15 : decode cX0_cutEdge 15 = .ok (.istore_n 3, 1) := by decide +kernel
theorem dX0_cutEdge_16 : decode cX0_cutEdge 16 = .ok (.aload_n 0, 1) := by decide +kernel
theorem dX0_cutEdge_17 : decode cX0_cutEdge 17 = .ok (.getfield 9, 3) := by decide +kernel
theorem dX0_cutEdge_20 : decode cX0_cutEdge 20 = .ok (.iload_n 1, 1) := by decide +kernel
theorem dX0_cutEdge_21 : decode cX0_cutEdge 21 = .ok (.aload_n 0, 1) := by decide +kernel
theorem dX0_cutEdge_22 : decode cX0_cutEdge 22 = .ok (.getfield 9, 3) := by decide +kernel
theorem dX0_cutEdge_25 : decode cX0_cutEdge 25 = .ok (.iload_n 1, 1) := by decide +kernel
theorem dX0_cutEdge_26 : decode cX0_cutEdge 26 = .ok (.iaload, 1) := by decide +kernel
theorem dX0_cutEdge_27 : decode cX0_cutEdge 27 = .ok (.iload_n 2, 1) := by decide +kernel
theorem dX0_cutEdge_28 : decode cX0_cutEdge 28 = .ok (.invokestatic 115, 3) := by decide +kernel
theorem dX0_cutEdge_31 : decode cX0_cutEdge 31 = .ok (.iastore, 1) := by decide +kernel
theorem dX0_cutEdge_32 : decode cX0_cutEdge 32 = .ok (.aload_n 0, 1) := by decide +kernel
theorem dX0_cutEdge_33 : decode cX0_cutEdge 33 = .ok (.getfield 9, 3) := by decide +kernel
theorem dX0_cutEdge_36 : decode cX0_cutEdge 36 = .ok (.iload_n 2, 1) := by decide +kernel
theorem dX0_cutEdge_37 : decode cX0_cutEdge 37 = .ok (.aload_n 0, 1) := by decide +kernel
theorem dX0_cutEdge_38 : decode cX0_cutEdge 38 = .ok (.getfield 9, 3) := by decide +kernel
theorem dX0_cutEdge_41 : decode cX0_cutEdge 41 = .ok (.iload_n 2, 1) := by decide +kernel
theorem dX0_cutEdge_42 : decode cX0_cutEdge 42 = .ok (.iaload, 1) := by decide +kernel
theorem dX0_cutEdge_43 : decode cX0_cutEdge 43 = .ok (.iload_n 1, 1) := by decide +kernel
theorem dX0_cutEdge_44 : decode cX0_cutEdge 44 = .ok (.invokestatic 115, 3) := by decide +kernel
theorem dX0_cutEdge_47 : decode cX0_cutEdge 47 = .ok (.iastore, 1) := by decide +kernel
theorem dX0_cutEdge_48 : decode cX0_cutEdge 48 = .ok (.aload_n 0, 1) := by decide +kernel
theorem dX0_cutEdge_49 : decode cX0_cutEdge 49 = .ok (.dup, 1) := by decide +kernel
theorem dX0_cutEdge_50 : decode cX0_cutEdge 50 = .ok (.getfield 23, 3) := by decide +kernel
theorem dX0_cutEdge_53 : decode cX0_cutEdge 53 = .ok (.iconst 1, 1) := by decide +kernel
theorem dX0_cutEdge_54 : decode cX0_cutEdge 54 = .ok (.isub, 1) := by decide +kernel
theorem dX0_cutEdge_55 : decode cX0_cutEdge 55 = .ok (.putfield 23, 3) := by decide +kernel
theorem dX0_cutEdge_58 : decode cX0_cutEdge 58 = .ok (.aload_n 0, 1) := by decide +kernel
theorem dX0_cutEdge_59 : decode cX0_cutEdge 59 = .ok (.iload_n 1, 1) := by decide +kernel
theorem dX0_cutEdge_60 : decode cX0_cutEdge 60 = .ok (.iload_n 2, 1) := by decide +kernel
theorem dX0_cutEdge_61 : decode cX0_cutEdge 61 = .ok (.iload_n 3, 1) := by decide +kernel
theorem dX0_cutEdge_62 : decode cX0_cutEdge 62 = .ok (.invokevirtual 148, 3) := by decide +kernel
theorem dX0_cutEdge_65 : decode cX0_cutEdge 65 = .ok (.istore 4, 2) := by decide +kernel
theorem dX0_cutEdge_67 : decode cX0_cutEdge 67 = .ok (.aload_n 0, 1) := by decide +kernel
theorem dX0_cutEdge_68 : decode cX0_cutEdge 68 = .ok (.iload 4, 2) := by decide +kernel
theorem dX0_cutEdge_70 : decode cX0_cutEdge 70 = .ok (.aload_n 0, 1) := by decide +kernel
theorem dX0_cutEdge_71 : decode cX0_cutEdge 71 = .ok (.iload 4, 2) := by decide +kernel
theorem dX0_cutEdge_73 : decode cX0_cutEdge 73 = .ok (.aload_n 0, 1) := by decide +kernel
theorem dX0_cutEdge_74 : decode cX0_cutEdge 74 = .ok (.iload_n 3, 1) := by decide +kernel
theorem dX0_cutEdge_75 : decode cX0_cutEdge 75 = .ok (.iconst 1, 1) := by decide +kernel
theorem dX0_cutEdge_76 : decode cX0_cutEdge 76 = .ok (.iadd, 1) := by decide +kernel
theorem dX0_cutEdge_77 : decode cX0_cutEdge 77 = .ok (.invokevirtual 80, 3) := by decide +kernel
theorem dX0_cutEdge_80 : decode cX0_cutEdge 80 = .ok (.iload_n 3, 1) := by decide +kernel
theorem dX0_cutEdge_81 : decode cX0_cutEdge 81 = .ok (.invokevirtual 152, 3) := by decide +kernel
theorem dX0_cutEdge_84 : decode cX0_cutEdge 84 = .ok (.iconst (-1), 1) := by decide +kernel
theorem dX0_cutEdge_85 : decode cX0_cutEdge 85 = .ok (.ixor, 1) := by decide +kernel
theorem dX0_cutEdge_86 : decode cX0_cutEdge 86 = .ok (.iand, 1) := by decide +kernel
theorem dX0_cutEdge_87 : decode cX0_cutEdge 87 = .ok (.iconst (-1), 1) := by decide +kernel
theorem dX0_cutEdge_88 : decode cX0_cutEdge 88 = .ok (.invokevirtual 155, 3) := by decide +kernel
theorem dX0_cutEdge_91 : decode cX0_cutEdge 91 = .ok (.ireturn, 1) := by decide +kernel
set_option maxRecDepth 20000 in
theorem ggX0_nearShell_X0_single : GoodIn wsX0_nearShell wsX0_single := goodIn_r _ [4] (by decide +kernel) (by decide +kernel)
set_option maxRecDepth 20000 in
theorem gX0_nearShell_X0_single : GoodIn wsX0_nearShell (va_wsS RX0 83 yX0_single wsX0_single) := goodIn_app (goodIn_of _ (by decide +kernel)) ggX0_nearShell_X0_single
set_option maxRecDepth 20000 in
theorem ggX0_nearShell_X0_with : GoodIn wsX0_nearShell wsX0_with := goodIn_r _ [7, 1, 2, 3, 4] (by decide +kernel) (by decide +kernel)
set_option maxRecDepth 20000 in
theorem gX0_nearShell_X0_with : GoodIn wsX0_nearShell (va_wsS RX0 46 yX0_with wsX0_with) := goodIn_app (goodIn_of _ (by decide +kernel)) ggX0_nearShell_X0_with
set_option maxRecDepth 20000 in
theorem ggX0_nearShell_X0_shellSet : GoodIn wsX0_nearShell wsX0_shellSet := goodIn_r _ [11, 12, 13, 14, 3, 15, 16, 17, 5, 6, 7, 1, 2, 4, 26, 27, 28, 29, 30, 31] (by decide +kernel) (by decide +kernel)
set_option maxRecDepth 20000 in
theorem gX0_nearShell_X0_shellSet : GoodIn wsX0_nearShell (wsV RX0 104 RX0 yX0_shellSet wsX0_shellSet) := goodIn_app (goodIn_of _ (by decide +kernel)) ggX0_nearShell_X0_shellSet
set_option maxRecDepth 20000 in
theorem ggX0_nearShell_X0_reach : GoodIn wsX0_nearShell wsX0_reach := goodIn_r _ [21, 16, 22, 23, 24, 3, 25, 1, 2, 4, 26, 27, 28, 29, 30, 31] (by decide +kernel) (by decide +kernel)
set_option maxRecDepth 20000 in
theorem gX0_nearShell_X0_reach : GoodIn wsX0_nearShell (wsV RX0 86 RX0 yX0_reach wsX0_reach) := goodIn_app (goodIn_of _ (by decide +kernel)) ggX0_nearShell_X0_reach
theorem dX0_nearShell_0 : decode cX0_nearShell 0 = .ok (.aload_n 0, 1) := by decide +kernel
theorem dX0_nearShell_1 : decode cX0_nearShell 1 = .ok (.iload_n 1, 1) := by decide +kernel
theorem dX0_nearShell_2 : decode cX0_nearShell 2 = .ok (.invokestatic 83, 3) := by decide +kernel
theorem dX0_nearShell_5 : decode cX0_nearShell 5 = .ok (.iload_n 2, 1) := by decide +kernel
theorem dX0_nearShell_6 : decode cX0_nearShell 6 = .ok (.invokestatic 46, 3) := by decide +kernel
theorem dX0_nearShell_9 : decode cX0_nearShell 9 = .ok (.aload_n 0, 1) := by decide +kernel
theorem dX0_nearShell_10 : decode cX0_nearShell 10 = .ok (.iload_n 3, 1) := by decide +kernel
theorem dX0_nearShell_11 : decode cX0_nearShell 11 = .ok (.invokevirtual 104, 3) := by decide +kernel
theorem dX0_nearShell_14 : decode cX0_nearShell 14 = .ok (.invokevirtual 86, 3) := by decide +kernel
theorem dX0_nearShell_17 : decode cX0_nearShell 17 = .ok (.ireturn, 1) := by decide +kernel
set_option maxRecDepth 20000 in
theorem ggX0_supportedPart_X0_contains : GoodIn wsX0_supportedPart wsX0_contains := goodIn_r _ [6, 7, 8, 5, 9] (by decide +kernel) (by decide +kernel)
set_option maxRecDepth 20000 in
theorem gX0_supportedPart_X0_contains : GoodIn wsX0_supportedPart (va_wsS RX0 40 yX0_contains wsX0_contains) := goodIn_app (goodIn_of _ (by decide +kernel)) ggX0_supportedPart_X0_contains
set_option maxRecDepth 20000 in
theorem ggX0_supportedPart_X0_size : GoodIn wsX0_supportedPart wsX0_size := goodIn_r _ [12, 13, 14, 15, 16, 17, 18, 19] (by decide +kernel) (by decide +kernel)
set_option maxRecDepth 20000 in
theorem gX0_supportedPart_X0_size : GoodIn wsX0_supportedPart (va_wsS RX0 63 yX0_size wsX0_size) := goodIn_app (goodIn_of _ (by decide +kernel)) ggX0_supportedPart_X0_size
set_option maxRecDepth 20000 in
theorem ggX0_supportedPart_X0_without : GoodIn wsX0_supportedPart wsX0_without := goodIn_r _ [22, 7, 8, 5, 9] (by decide +kernel) (by decide +kernel)
set_option maxRecDepth 20000 in
theorem gX0_supportedPart_X0_without : GoodIn wsX0_supportedPart (va_wsS RX0 115 yX0_without wsX0_without) := goodIn_app (goodIn_of _ (by decide +kernel)) ggX0_supportedPart_X0_without
theorem dX0_supportedPart_0 : decode cX0_supportedPart 0 = .ok (.iload_n 1, 1) := by decide +kernel
theorem dX0_supportedPart_1 : decode cX0_supportedPart 1 = .ok (.istore 4, 2) := by decide +kernel
theorem dX0_supportedPart_3 : decode cX0_supportedPart 3 = .ok (.iconst 1, 1) := by decide +kernel
theorem dX0_supportedPart_4 : decode cX0_supportedPart 4 = .ok (.istore 5, 2) := by decide +kernel
theorem dX0_supportedPart_6 : decode cX0_supportedPart 6 = .ok (.iconst 0, 1) := by decide +kernel
theorem dX0_supportedPart_7 : decode cX0_supportedPart 7 = .ok (.istore 6, 2) := by decide +kernel
theorem dX0_supportedPart_9 : decode cX0_supportedPart 9 = .ok (.iload 5, 2) := by decide +kernel
theorem dX0_supportedPart_11 : decode cX0_supportedPart 11 = .ok (.ifCond .eq 80, 3) := by decide +kernel
theorem dX0_supportedPart_14 : decode cX0_supportedPart 14 = .ok (.iload 6, 2) := by decide +kernel
theorem dX0_supportedPart_16 : decode cX0_supportedPart 16 = .ok (.aload_n 0, 1) := by decide +kernel
theorem dX0_supportedPart_17 : decode cX0_supportedPart 17 = .ok (.getfield 19, 3) := by decide +kernel
theorem dX0_supportedPart_20 : decode cX0_supportedPart 20 = .ok (.if_icmp .gt 71, 3) := by decide +kernel
theorem dX0_supportedPart_23 : decode cX0_supportedPart 23 = .ok (.iconst 0, 1) := by decide +kernel
theorem dX0_supportedPart_24 : decode cX0_supportedPart 24 = .ok (.istore 5, 2) := by decide +kernel
theorem dX0_supportedPart_26 : decode cX0_supportedPart 26 = .ok (.iconst 0, 1) := by decide +kernel
theorem dX0_supportedPart_27 : decode cX0_supportedPart 27 = .ok (.istore 7, 2) := by decide +kernel
theorem dX0_supportedPart_29 : decode cX0_supportedPart 29 = .ok (.iload 7, 2) := by decide +kernel
theorem dX0_supportedPart_31 : decode cX0_supportedPart 31 = .ok (.aload_n 0, 1) := by decide +kernel
theorem dX0_supportedPart_32 : decode cX0_supportedPart 32 = .ok (.getfield 19, 3) := by decide +kernel
theorem dX0_supportedPart_35 : decode cX0_supportedPart 35 = .ok (.if_icmp .ge 50, 3) := by decide +kernel
theorem dX0_supportedPart_38 : decode cX0_supportedPart 38 = .ok (.iload 4, 2) := by decide +kernel
theorem dX0_supportedPart_40 : decode cX0_supportedPart 40 = .ok (.iload 7, 2) := by decide +kernel
theorem dX0_supportedPart_42 : decode cX0_supportedPart 42 = .ok (.invokestatic 40, 3) := by decide +kernel
theorem dX0_supportedPart_45 : decode cX0_supportedPart 45 = .ok (.ifCond .eq 34, 3) := by decide +kernel
theorem dX0_supportedPart_48 : decode cX0_supportedPart 48 = .ok (.aload_n 0, 1) := by decide +kernel
theorem dX0_supportedPart_49 : decode cX0_supportedPart 49 = .ok (.getfield 9, 3) := by decide +kernel
theorem dX0_supportedPart_52 : decode cX0_supportedPart 52 = .ok (.iload 7, 2) := by decide +kernel
theorem dX0_supportedPart_54 : decode cX0_supportedPart 54 = .ok (.iaload, 1) := by decide +kernel
theorem dX0_supportedPart_55 : decode cX0_supportedPart 55 = .ok (.iload 4, 2) := by decide +kernel
theorem dX0_supportedPart_57 : decode cX0_supportedPart 57 = .ok (.iload_n 2, 1) := by decide +kernel
theorem dX0_supportedPart_58 : decode cX0_supportedPart 58 = .ok (.ior, 1) := by decide +kernel
theorem dX0_supportedPart_59 : decode cX0_supportedPart 59 = .ok (.iand, 1) := by decide +kernel
theorem dX0_supportedPart_60 : decode cX0_supportedPart 60 = .ok (.invokestatic 63, 3) := by decide +kernel
theorem dX0_supportedPart_63 : decode cX0_supportedPart 63 = .ok (.iload_n 3, 1) := by decide +kernel
theorem dX0_supportedPart_64 : decode cX0_supportedPart 64 = .ok (.if_icmp .ge 15, 3) := by decide +kernel
theorem dX0_supportedPart_67 : decode cX0_supportedPart 67 = .ok (.iload 4, 2) := by decide +kernel
theorem dX0_supportedPart_69 : decode cX0_supportedPart 69 = .ok (.iload 7, 2) := by decide +kernel
theorem dX0_supportedPart_71 : decode cX0_supportedPart 71 = .ok (.invokestatic 115, 3) := by decide +kernel
theorem dX0_supportedPart_74 : decode cX0_supportedPart 74 = .ok (.istore 4, 2) := by decide +kernel
theorem dX0_supportedPart_76 : decode cX0_supportedPart 76 = .ok (.iconst 1, 1) := by decide +kernel
theorem dX0_supportedPart_77 : decode cX0_supportedPart 77 = .ok (.istore 5, 2) := by decide +kernel
theorem dX0_supportedPart_79 : decode cX0_supportedPart 79 = .ok (.iinc 7 1, 3) := by decide +kernel
theorem dX0_supportedPart_82 : decode cX0_supportedPart 82 = .ok (.goto (-53), 3) := by decide +kernel
theorem dX0_supportedPart_85 : decode cX0_supportedPart 85 = .ok (.iinc 6 1, 3) := by decide +kernel
theorem dX0_supportedPart_88 : decode cX0_supportedPart 88 = .ok (.goto (-79), 3) := by decide +kernel
theorem dX0_supportedPart_91 : decode cX0_supportedPart 91 = .ok (.iload 4, 2) := by decide +kernel
theorem dX0_supportedPart_93 : decode cX0_supportedPart 93 = .ok (.ireturn, 1) := by decide +kernel
set_option maxRecDepth 20000 in
theorem ggX0_changeCores_X0_contains : GoodIn wsX0_changeCores wsX0_contains := goodIn_r _ [7, 8, 9, 6, 10] (by decide +kernel) (by decide +kernel)
set_option maxRecDepth 20000 in
theorem gX0_changeCores_X0_contains : GoodIn wsX0_changeCores (va_wsS RX0 40 yX0_contains wsX0_contains) := goodIn_app (goodIn_of _ (by decide +kernel)) ggX0_changeCores_X0_contains
set_option maxRecDepth 20000 in
theorem ggX0_changeCores_X0_size : GoodIn wsX0_changeCores wsX0_size := goodIn_r _ [13, 14, 15, 16, 17, 18, 19, 20] (by decide +kernel) (by decide +kernel)
set_option maxRecDepth 20000 in
theorem gX0_changeCores_X0_size : GoodIn wsX0_changeCores (va_wsS RX0 63 yX0_size wsX0_size) := goodIn_app (goodIn_of _ (by decide +kernel)) ggX0_changeCores_X0_size
theorem dX0_changeCores_0 : decode cX0_changeCores 0 = .ok (.iconst 0, 1) := by decide +kernel
theorem dX0_changeCores_1 : decode cX0_changeCores 1 = .ok (.istore_n 3, 1) := by decide +kernel
theorem dX0_changeCores_2 : decode cX0_changeCores 2 = .ok (.iload_n 3, 1) := by decide +kernel
theorem dX0_changeCores_3 : decode cX0_changeCores 3 = .ok (.aload_n 0, 1) := by decide +kernel
theorem dX0_changeCores_4 : decode cX0_changeCores 4 = .ok (.getfield 19, 3) := by decide +kernel
theorem dX0_changeCores_7 : decode cX0_changeCores 7 = .ok (.if_icmp .ge 27, 3) := by decide +kernel
theorem dX0_changeCores_10 : decode cX0_changeCores 10 = .ok (.iload_n 1, 1) := by decide +kernel
theorem dX0_changeCores_11 : decode cX0_changeCores 11 = .ok (.iload_n 3, 1) := by decide +kernel
theorem dX0_changeCores_12 : decode cX0_changeCores 12 = .ok (.invokestatic 40, 3) := by decide +kernel
theorem dX0_changeCores_15 : decode cX0_changeCores 15 = .ok (.ifCond .eq 13, 3) := by decide +kernel
theorem dX0_changeCores_18 : decode cX0_changeCores 18 = .ok (.aload_n 0, 1) := by decide +kernel
theorem dX0_changeCores_19 : decode cX0_changeCores 19 = .ok (.getfield 13, 3) := by decide +kernel
theorem dX0_changeCores_22 : decode cX0_changeCores 22 = .ok (.iload_n 3, 1) := by decide +kernel
theorem dX0_changeCores_23 : decode cX0_changeCores 23 = .ok (.dup2, 1) := by decide +kernel
theorem dX0_changeCores_24 : decode cX0_changeCores 24 = .ok (.iaload, 1) := by decide +kernel
theorem dX0_changeCores_25 : decode cX0_changeCores 25 = .ok (.iload_n 2, 1) := by decide +kernel
theorem dX0_changeCores_26 : decode cX0_changeCores 26 = .ok (.iadd, 1) := by decide +kernel
theorem dX0_changeCores_27 : decode cX0_changeCores 27 = .ok (.iastore, 1) := by decide +kernel
theorem dX0_changeCores_28 : decode cX0_changeCores 28 = .ok (.iinc 3 1, 3) := by decide +kernel
theorem dX0_changeCores_31 : decode cX0_changeCores 31 = .ok (.goto (-29), 3) := by decide +kernel
theorem dX0_changeCores_34 : decode cX0_changeCores 34 = .ok (.aload_n 0, 1) := by decide +kernel
theorem dX0_changeCores_35 : decode cX0_changeCores 35 = .ok (.dup, 1) := by decide +kernel
theorem dX0_changeCores_36 : decode cX0_changeCores 36 = .ok (.getfield 26, 3) := by decide +kernel
theorem dX0_changeCores_39 : decode cX0_changeCores 39 = .ok (.iload_n 1, 1) := by decide +kernel
theorem dX0_changeCores_40 : decode cX0_changeCores 40 = .ok (.invokestatic 63, 3) := by decide +kernel
theorem dX0_changeCores_43 : decode cX0_changeCores 43 = .ok (.iadd, 1) := by decide +kernel
theorem dX0_changeCores_44 : decode cX0_changeCores 44 = .ok (.putfield 26, 3) := by decide +kernel
theorem dX0_changeCores_47 : decode cX0_changeCores 47 = .ok (.iload_n 1, 1) := by decide +kernel
theorem dX0_changeCores_48 : decode cX0_changeCores 48 = .ok (.invokestatic 63, 3) := by decide +kernel
theorem dX0_changeCores_51 : decode cX0_changeCores 51 = .ok (.ireturn, 1) := by decide +kernel
set_option maxRecDepth 20000 in
theorem ggX0_countCommunities_X0_contains : GoodIn wsX0_countCommunities wsX0_contains := goodIn_r _ [5, 6, 7, 4, 8] (by decide +kernel) (by decide +kernel)
set_option maxRecDepth 20000 in
theorem gX0_countCommunities_X0_contains : GoodIn wsX0_countCommunities (va_wsS RX0 40 yX0_contains wsX0_contains) := goodIn_app (goodIn_of _ (by decide +kernel)) ggX0_countCommunities_X0_contains
set_option maxRecDepth 20000 in
theorem ggX0_countCommunities_X0_single : GoodIn wsX0_countCommunities wsX0_single := goodIn_r _ [8] (by decide +kernel) (by decide +kernel)
set_option maxRecDepth 20000 in
theorem gX0_countCommunities_X0_single : GoodIn wsX0_countCommunities (va_wsS RX0 83 yX0_single wsX0_single) := goodIn_app (goodIn_of _ (by decide +kernel)) ggX0_countCommunities_X0_single
set_option maxRecDepth 20000 in
theorem ggX0_countCommunities_X0_reach : GoodIn wsX0_countCommunities wsX0_reach := goodIn_r _ [12, 1, 13, 2, 3, 4, 5, 6, 7, 8, 14, 15, 16, 17, 18, 19] (by decide +kernel) (by decide +kernel)
set_option maxRecDepth 20000 in
theorem gX0_countCommunities_X0_reach : GoodIn wsX0_countCommunities (wsV RX0 86 RX0 yX0_reach wsX0_reach) := goodIn_app (goodIn_of _ (by decide +kernel)) ggX0_countCommunities_X0_reach
theorem dX0_countCommunities_0 : decode cX0_countCommunities 0 = .ok (.iconst 0, 1) := by decide +kernel
theorem dX0_countCommunities_1 : decode cX0_countCommunities 1 = .ok (.istore_n 3, 1) := by decide +kernel
theorem dX0_countCommunities_2 : decode cX0_countCommunities 2 = .ok (.iload_n 2, 1) := by decide +kernel
theorem dX0_countCommunities_3 : decode cX0_countCommunities 3 = .ok (.istore 4, 2) := by decide +kernel
theorem dX0_countCommunities_5 : decode cX0_countCommunities 5 = .ok (.iconst 0, 1) := by decide +kernel
theorem dX0_countCommunities_6 : decode cX0_countCommunities 6 = .ok (.istore 5, 2) := by decide +kernel
theorem dX0_countCommunities_8 : decode cX0_countCommunities 8 = .ok (.iload 5, 2) := by decide +kernel
theorem dX0_countCommunities_10 : decode cX0_countCommunities 10 = .ok (.aload_n 0, 1) := by decide +kernel
theorem dX0_countCommunities_11 : decode cX0_countCommunities 11 = .ok (.getfield 19, 3) := by decide +kernel
theorem dX0_countCommunities_14 : decode cX0_countCommunities 14 = .ok (.if_icmp .ge 39, 3) := by decide +kernel
theorem dX0_countCommunities_17 : decode cX0_countCommunities 17 = .ok (.iload 4, 2) := by decide +kernel
theorem dX0_countCommunities_19 : decode cX0_countCommunities 19 = .ok (.iload 5, 2) := by decide +kernel
theorem dX0_countCommunities_21 : decode cX0_countCommunities 21 = .ok (.invokestatic 40, 3) := by decide +kernel
theorem dX0_countCommunities_24 : decode cX0_countCommunities 24 = .ok (.ifCond .eq 23, 3) := by decide +kernel
theorem dX0_countCommunities_27 : decode cX0_countCommunities 27 = .ok (.iload 4, 2) := by decide +kernel
theorem dX0_countCommunities_29 : decode cX0_countCommunities 29 = .ok (.aload_n 0, 1) := by decide +kernel
theorem dX0_countCommunities_30 : decode cX0_countCommunities 30 = .ok (.iload 5, 2) := by decide +kernel
theorem dX0_countCommunities_32 : decode cX0_countCommunities 32 = .ok (.invokestatic 83, 3) := by decide +kernel
theorem dX0_countCommunities_35 : decode cX0_countCommunities 35 = .ok (.iload_n 1, 1) := by decide +kernel
theorem dX0_countCommunities_36 : decode cX0_countCommunities 36 = .ok (.invokevirtual 86, 3) := by decide +kernel
theorem dX0_countCommunities_39 : decode cX0_countCommunities 39 = .ok (.iconst (-1), 1) := by decide +kernel
theorem dX0_countCommunities_40 : decode cX0_countCommunities 40 = .ok (.ixor, 1) := by decide +kernel
theorem dX0_countCommunities_41 : decode cX0_countCommunities 41 = .ok (.iand, 1) := by decide +kernel
theorem dX0_countCommunities_42 : decode cX0_countCommunities 42 = .ok (.istore 4, 2) := by decide +kernel
theorem dX0_countCommunities_44 : decode cX0_countCommunities 44 = .ok (.iinc 3 1, 3) := by decide +kernel
theorem dX0_countCommunities_47 : decode cX0_countCommunities 47 = .ok (.iinc 5 1, 3) := by decide +kernel
theorem dX0_countCommunities_50 : decode cX0_countCommunities 50 = .ok (.goto (-42), 3) := by decide +kernel
theorem dX0_countCommunities_53 : decode cX0_countCommunities 53 = .ok (.iload_n 3, 1) := by decide +kernel
theorem dX0_countCommunities_54 : decode cX0_countCommunities 54 = .ok (.ireturn, 1) := by decide +kernel
set_option maxRecDepth 20000 in
theorem ggX0_nextToPeel_X0_contains : GoodIn wsX0_nextToPeel wsX0_contains := goodIn_r _ [6, 7, 8, 5, 9] (by decide +kernel) (by decide +kernel)
set_option maxRecDepth 20000 in
theorem gX0_nextToPeel_X0_contains : GoodIn wsX0_nextToPeel (va_wsS RX0 40 yX0_contains wsX0_contains) := goodIn_app (goodIn_of _ (by decide +kernel)) ggX0_nextToPeel_X0_contains
set_option maxRecDepth 20000 in
theorem ggX0_nextToPeel_X0_size : GoodIn wsX0_nextToPeel wsX0_size := goodIn_r _ [12, 13, 14, 15, 16, 17, 18, 19] (by decide +kernel) (by decide +kernel)
set_option maxRecDepth 20000 in
theorem gX0_nextToPeel_X0_size : GoodIn wsX0_nextToPeel (va_wsS RX0 63 yX0_size wsX0_size) := goodIn_app (goodIn_of _ (by decide +kernel)) ggX0_nextToPeel_X0_size
theorem dX0_nextToPeel_0 : decode cX0_nextToPeel 0 = .ok (.iconst 0, 1) := by decide +kernel
theorem dX0_nextToPeel_1 : decode cX0_nextToPeel 1 = .ok (.istore_n 2, 1) := by decide +kernel
theorem dX0_nextToPeel_2 : decode cX0_nextToPeel 2 = .ok (.bipush 20, 2) := by decide +kernel
theorem dX0_nextToPeel_4 : decode cX0_nextToPeel 4 = .ok (.istore_n 3, 1) := by decide +kernel
theorem dX0_nextToPeel_5 : decode cX0_nextToPeel 5 = .ok (.iconst 0, 1) := by decide +kernel
theorem dX0_nextToPeel_6 : decode cX0_nextToPeel 6 = .ok (.istore 4, 2) := by decide +kernel
theorem dX0_nextToPeel_8 : decode cX0_nextToPeel 8 = .ok (.iload 4, 2) := by decide +kernel
theorem dX0_nextToPeel_10 : decode cX0_nextToPeel 10 = .ok (.aload_n 0, 1) := by decide +kernel
theorem dX0_nextToPeel_11 : decode cX0_nextToPeel 11 = .ok (.getfield 19, 3) := by decide +kernel
theorem dX0_nextToPeel_14 : decode cX0_nextToPeel 14 = .ok (.if_icmp .ge 50, 3) := by decide +kernel
theorem dX0_nextToPeel_17 : decode cX0_nextToPeel 17 = .ok (.iload_n 1, 1) := by decide +kernel
theorem dX0_nextToPeel_18 : decode cX0_nextToPeel 18 = .ok (.iload 4, 2) := by decide +kernel
theorem dX0_nextToPeel_20 : decode cX0_nextToPeel 20 = .ok (.invokestatic 40, 3) := by decide +kernel
theorem dX0_nextToPeel_23 : decode cX0_nextToPeel 23 = .ok (.ifCond .eq 35, 3) := by decide +kernel
theorem dX0_nextToPeel_26 : decode cX0_nextToPeel 26 = .ok (.aload_n 0, 1) := by decide +kernel
theorem dX0_nextToPeel_27 : decode cX0_nextToPeel 27 = .ok (.getfield 9, 3) := by decide +kernel
theorem dX0_nextToPeel_30 : decode cX0_nextToPeel 30 = .ok (.iload 4, 2) := by decide +kernel
theorem dX0_nextToPeel_32 : decode cX0_nextToPeel 32 = .ok (.iaload, 1) := by decide +kernel
theorem dX0_nextToPeel_33 : decode cX0_nextToPeel 33 = .ok (.iload_n 1, 1) := by decide +kernel
theorem dX0_nextToPeel_34 : decode cX0_nextToPeel 34 = .ok (.iand, 1) := by decide +kernel
theorem dX0_nextToPeel_35 : decode cX0_nextToPeel 35 = .ok (.invokestatic 63, 3) := by decide +kernel
theorem dX0_nextToPeel_38 : decode cX0_nextToPeel 38 = .ok (.iload_n 3, 1) := by decide +kernel
theorem dX0_nextToPeel_39 : decode cX0_nextToPeel 39 = .ok (.if_icmp .ge 19, 3) := by decide +kernel
theorem dX0_nextToPeel_42 : decode cX0_nextToPeel 42 = .ok (.iload 4, 2) := by decide +kernel
theorem dX0_nextToPeel_44 : decode cX0_nextToPeel 44 = .ok (.istore_n 2, 1) := by decide +kernel
theorem dX0_nextToPeel_45 : decode cX0_nextToPeel 45 = .ok (.aload_n 0, 1) := by decide +kernel
theorem dX0_nextToPeel_46 : decode cX0_nextToPeel 46 = .ok (.getfield 9, 3) := by decide +kernel
theorem dX0_nextToPeel_49 : decode cX0_nextToPeel 49 = .ok (.iload 4, 2) := by decide +kernel
theorem dX0_nextToPeel_51 : decode cX0_nextToPeel 51 = .ok (.iaload, 1) := by decide +kernel
theorem dX0_nextToPeel_52 : decode cX0_nextToPeel 52 = .ok (.iload_n 1, 1) := by decide +kernel
theorem dX0_nextToPeel_53 : decode cX0_nextToPeel 53 = .ok (.iand, 1) := by decide +kernel
theorem dX0_nextToPeel_54 : decode cX0_nextToPeel 54 = .ok (.invokestatic 63, 3) := by decide +kernel
theorem dX0_nextToPeel_57 : decode cX0_nextToPeel 57 = .ok (.istore_n 3, 1) := by decide +kernel
theorem dX0_nextToPeel_58 : decode cX0_nextToPeel 58 = .ok (.iinc 4 1, 3) := by decide +kernel
theorem dX0_nextToPeel_61 : decode cX0_nextToPeel 61 = .ok (.goto (-53), 3) := by decide +kernel
theorem dX0_nextToPeel_64 : decode cX0_nextToPeel 64 = .ok (.iload_n 2, 1) := by decide +kernel
theorem dX0_nextToPeel_65 : decode cX0_nextToPeel 65 = .ok (.ireturn, 1) := by decide +kernel
set_option maxRecDepth 20000 in
theorem ggX0_denseSet_X0_allNodes : GoodIn wsX0_denseSet wsX0_allNodes := goodIn_r _ [7, 2, 8, 9, 6, 10, 36, 37, 38, 39, 40, 41] (by decide +kernel) (by decide +kernel)
set_option maxRecDepth 20000 in
theorem gX0_denseSet_X0_allNodes : GoodIn wsX0_denseSet (wsV RX0 109 RX0 yX0_allNodes wsX0_allNodes) := goodIn_app (goodIn_of _ (by decide +kernel)) ggX0_denseSet_X0_allNodes
set_option maxRecDepth 20000 in
theorem ggX0_denseSet_X0_nextToPeel : GoodIn wsX0_denseSet wsX0_nextToPeel := goodIn_r _ [14, 2, 15, 16, 17, 6, 18, 8, 9, 10, 19, 20, 21, 22, 23, 24, 25, 26, 27, 28, 36, 37, 38, 39, 40, 41] (by decide +kernel) (by decide +kernel)
set_option maxRecDepth 20000 in
theorem gX0_denseSet_X0_nextToPeel : GoodIn wsX0_denseSet (wsV RX0 112 RX0 yX0_nextToPeel wsX0_nextToPeel) := goodIn_app (goodIn_of _ (by decide +kernel)) ggX0_denseSet_X0_nextToPeel
set_option maxRecDepth 20000 in
theorem ggX0_denseSet_X0_without : GoodIn wsX0_denseSet wsX0_without := goodIn_r _ [31, 8, 9, 6, 10] (by decide +kernel) (by decide +kernel)
set_option maxRecDepth 20000 in
theorem gX0_denseSet_X0_without : GoodIn wsX0_denseSet (va_wsS RX0 115 yX0_without wsX0_without) := goodIn_app (goodIn_of _ (by decide +kernel)) ggX0_denseSet_X0_without
set_option maxRecDepth 20000 in
theorem ggX0_denseSet_X0_edgesWithin : GoodIn wsX0_denseSet wsX0_edgesWithin := goodIn_r _ [35, 2, 15, 16, 17, 6, 18, 8, 9, 10, 19, 20, 21, 22, 23, 24, 25, 26, 27, 28, 36, 37, 38, 39, 40, 41] (by decide +kernel) (by decide +kernel)
set_option maxRecDepth 20000 in
theorem gX0_denseSet_X0_edgesWithin : GoodIn wsX0_denseSet (wsV RX0 121 RX0 yX0_edgesWithin wsX0_edgesWithin) := goodIn_app (goodIn_of _ (by decide +kernel)) ggX0_denseSet_X0_edgesWithin
set_option maxRecDepth 20000 in
theorem ggX0_denseSet_X0_size : GoodIn wsX0_denseSet wsX0_size := goodIn_r _ [21, 22, 23, 24, 25, 26, 27, 28] (by decide +kernel) (by decide +kernel)
set_option maxRecDepth 20000 in
theorem gX0_denseSet_X0_size : GoodIn wsX0_denseSet (va_wsS RX0 63 yX0_size wsX0_size) := goodIn_app (goodIn_of _ (by decide +kernel)) ggX0_denseSet_X0_size
theorem dX0_denseSet_0 : decode cX0_denseSet 0 = .ok (.aload_n 0, 1) := by decide +kernel
theorem dX0_denseSet_1 : decode cX0_denseSet 1 = .ok (.invokevirtual 109, 3) := by decide +kernel
theorem dX0_denseSet_4 : decode cX0_denseSet 4 = .ok (.istore_n 1, 1) := by decide +kernel
theorem dX0_denseSet_5 : decode cX0_denseSet 5 = .ok (.iload_n 1, 1) := by decide +kernel
theorem dX0_denseSet_6 : decode cX0_denseSet 6 = .ok (.istore_n 2, 1) := by decide +kernel
theorem dX0_denseSet_7 : decode cX0_denseSet 7 = .ok (.aload_n 0, 1) := by decide +kernel
theorem dX0_denseSet_8 : decode cX0_denseSet 8 = .ok (.getfield 23, 3) := by decide +kernel
theorem dX0_denseSet_11 : decode cX0_denseSet 11 = .ok (.istore_n 3, 1) := by decide +kernel
theorem dX0_denseSet_12 : decode cX0_denseSet 12 = .ok (.iconst 1, 1) := by decide +kernel
theorem dX0_denseSet_13 : decode cX0_denseSet 13 = .ok (.istore 4, 2) := by decide +kernel
theorem dX0_denseSet_15 : decode cX0_denseSet 15 = .ok (.iload 4, 2) := by decide +kernel
theorem dX0_denseSet_17 : decode cX0_denseSet 17 = .ok (.aload_n 0, 1) := by decide +kernel
theorem dX0_denseSet_18 : decode cX0_denseSet 18 = .ok (.getfield 19, 3) := by decide +kernel
theorem dX0_denseSet_21 : decode cX0_denseSet 21 = .ok (.if_icmp .ge 47, 3) := by decide +kernel
theorem dX0_denseSet_24 : decode cX0_denseSet 24 = .ok (.iload_n 1, 1) := by decide +kernel
theorem dX0_denseSet_25 : decode cX0_denseSet 25 = .ok (.aload_n 0, 1) := by decide +kernel
theorem dX0_denseSet_26 : decode cX0_denseSet 26 = .ok (.iload_n 1, 1) := by decide +kernel
theorem dX0_denseSet_27 : decode cX0_denseSet 27 = .ok (.invokevirtual 112, 3) := by decide +kernel
theorem dX0_denseSet_30 : decode cX0_denseSet 30 = .ok (.invokestatic 115, 3) := by decide +kernel
theorem dX0_denseSet_33 : decode cX0_denseSet 33 = .ok (.istore_n 1, 1) := by decide +kernel
theorem dX0_denseSet_34 : decode cX0_denseSet 34 = .ok (.aload_n 0, 1) := by decide +kernel
theorem dX0_denseSet_35 : decode cX0_denseSet 35 = .ok (.iload_n 1, 1) := by decide +kernel
theorem dX0_denseSet_36 : decode cX0_denseSet 36 = .ok (.invokevirtual 121, 3) := by decide +kernel
theorem dX0_denseSet_39 : decode cX0_denseSet 39 = .ok (.istore 5, 2) := by decide +kernel
theorem dX0_denseSet_41 : decode cX0_denseSet 41 = .ok (.iload 5, 2) := by decide +kernel
theorem dX0_denseSet_43 : decode cX0_denseSet 43 = .ok (.iload_n 2, 1) := by decide +kernel
theorem dX0_denseSet_44 : decode cX0_denseSet 44 = .ok (.invokestatic 63, 3) := by decide +kernel
theorem dX0_denseSet_47 : decode cX0_denseSet 47 = .ok (.imul, 1) := by decide +kernel
theorem dX0_denseSet_48 : decode cX0_denseSet 48 = .ok (.iload_n 3, 1) := by decide +kernel
theorem dX0_denseSet_49 : decode cX0_denseSet 49 = .ok (.iload_n 1, 1) := by decide +kernel
theorem dX0_denseSet_50 : decode cX0_denseSet 50 = .ok (.invokestatic 63, 3) := by decide +kernel
theorem dX0_denseSet_53 : decode cX0_denseSet 53 = .ok (.imul, 1) := by decide +kernel
theorem dX0_denseSet_54 : decode cX0_denseSet 54 = .ok (.if_icmp .le 8, 3) := by decide +kernel
theorem dX0_denseSet_57 : decode cX0_denseSet 57 = .ok (.iload_n 1, 1) := by decide +kernel
theorem dX0_denseSet_58 : decode cX0_denseSet 58 = .ok (.istore_n 2, 1) := by decide +kernel
theorem dX0_denseSet_59 : decode cX0_denseSet 59 = .ok (.iload 5, 2) := by decide +kernel
theorem dX0_denseSet_61 : decode cX0_denseSet 61 = .ok (.istore_n 3, 1) := by decide +kernel
theorem dX0_denseSet_62 : decode cX0_denseSet 62 = .ok (.iinc 4 1, 3) := by decide +kernel
theorem dX0_denseSet_65 : decode cX0_denseSet 65 = .ok (.goto (-50), 3) := by decide +kernel
theorem dX0_denseSet_68 : decode cX0_denseSet 68 = .ok (.iload_n 2, 1) := by decide +kernel
theorem dX0_denseSet_69 : decode cX0_denseSet 69 = .ok (.ireturn, 1) := by decide +kernel
theorem dX0_startTrusses_0 : decode cX0_startTrusses 0 = .ok (.iconst 0, 1) := by decide +kernel
theorem dX0_startTrusses_1 : decode cX0_startTrusses 1 = .ok (.istore_n 1, 1) := by decide +kernel
theorem dX0_startTrusses_2 : decode cX0_startTrusses 2 = .ok (.iload_n 1, 1) := by decide +kernel
theorem dX0_startTrusses_3 : decode cX0_startTrusses 3 = .ok (.aload_n 0, 1) := by decide +kernel
theorem dX0_startTrusses_4 : decode cX0_startTrusses 4 = .ok (.getfield 19, 3) := by decide +kernel
theorem dX0_startTrusses_7 : decode cX0_startTrusses 7 = .ok (.if_icmp .ge 21, 3) := by decide +kernel
theorem dX0_startTrusses_10 : decode cX0_startTrusses 10 = .ok (.aload_n 0, 1) := by decide +kernel
theorem dX0_startTrusses_11 : decode cX0_startTrusses 11 = .ok (.getfield 16, 3) := by decide +kernel
theorem dX0_startTrusses_14 : decode cX0_startTrusses 14 = .ok (.iload_n 1, 1) := by decide +kernel
theorem dX0_startTrusses_15 : decode cX0_startTrusses 15 = .ok (.aload_n 0, 1) := by decide +kernel
theorem dX0_startTrusses_16 : decode cX0_startTrusses 16 = .ok (.getfield 9, 3) := by decide +kernel
theorem dX0_startTrusses_19 : decode cX0_startTrusses 19 = .ok (.iload_n 1, 1) := by decide +kernel
theorem dX0_startTrusses_20 : decode cX0_startTrusses 20 = .ok (.iaload, 1) := by decide +kernel
theorem dX0_startTrusses_21 : decode cX0_startTrusses 21 = .ok (.iastore, 1) := by decide +kernel
theorem dX0_startTrusses_22 : decode cX0_startTrusses 22 = .ok (.iinc 1 1, 3) := by decide +kernel
theorem dX0_startTrusses_25 : decode cX0_startTrusses 25 = .ok (.goto (-23), 3) := by decide +kernel
theorem dX0_startTrusses_28 : decode cX0_startTrusses 28 = .ok (.return_, 1) := by decide +kernel
set_option maxRecDepth 20000 in
theorem ggX0_shrinkToTruss_X0_dropWeakEdges : GoodIn wsX0_shrinkToTruss wsX0_dropWeakEdges := goodIn_r _ [5, 6, 7, 8, 9, 4, 10, 11, 12, 13, 14, 15, 16, 17, 18, 19, 20, 21, 22, 23, 24, 25, 26, 27, 28, 29, 30, 31, 32] (by decide +kernel) (by decide +kernel)
set_option maxRecDepth 20000 in
theorem gX0_shrinkToTruss_X0_dropWeakEdges : GoodIn wsX0_shrinkToTruss (wsV RX0 158 RX0 yX0_dropWeakEdges wsX0_dropWeakEdges) := goodIn_app (goodIn_of _ (by decide +kernel)) ggX0_shrinkToTruss_X0_dropWeakEdges
theorem dX0_shrinkToTruss_0 : decode cX0_shrinkToTruss 0 = .ok (.iconst 1, 1) := by decide +kernel
theorem dX0_shrinkToTruss_1 : decode cX0_shrinkToTruss 1 = .ok (.istore_n 2, 1) := by decide +kernel
theorem dX0_shrinkToTruss_2 : decode cX0_shrinkToTruss 2 = .ok (.iconst 0, 1) := by decide +kernel
theorem dX0_shrinkToTruss_3 : decode cX0_shrinkToTruss 3 = .ok (.istore_n 3, 1) := by decide +kernel
theorem dX0_shrinkToTruss_4 : decode cX0_shrinkToTruss 4 = .ok (.iload_n 2, 1) := by decide +kernel
theorem dX0_shrinkToTruss_5 : decode cX0_shrinkToTruss 5 = .ok (.ifCond .eq 24, 3) := by decide +kernel
theorem dX0_shrinkToTruss_8 : decode cX0_shrinkToTruss 8 = .ok (.iload_n 3, 1) := by decide +kernel
theorem dX0_shrinkToTruss_9 : decode cX0_shrinkToTruss 9 = .ok (.sipush 190, 3) := by decide +kernel
theorem dX0_shrinkToTruss_12 : decode cX0_shrinkToTruss 12 = .ok (.if_icmp .gt 17, 3) := by decide +kernel
theorem dX0_shrinkToTruss_15 : decode cX0_shrinkToTruss 15 = .ok (.aload_n 0, 1) := by decide +kernel
theorem dX0_shrinkToTruss_16 : decode cX0_shrinkToTruss 16 = .ok (.iload_n 1, 1) := by decide +kernel
theorem dX0_shrinkToTruss_17 : decode cX0_shrinkToTruss 17 = .ok (.iconst 2, 1) := by decide +kernel
theorem dX0_shrinkToTruss_18 : decode cX0_shrinkToTruss 18 = .ok (.isub, 1) := by decide +kernel
theorem dX0_shrinkToTruss_19 : decode cX0_shrinkToTruss 19 = .ok (.invokevirtual 158, 3) := by decide +kernel
theorem dX0_shrinkToTruss_22 : decode cX0_shrinkToTruss 22 = .ok (.istore_n 2, 1) := by decide +kernel
theorem dX0_shrinkToTruss_23 : decode cX0_shrinkToTruss 23 = .ok (.iinc 3 1, 3) := by decide +kernel
theorem dX0_shrinkToTruss_26 : decode cX0_shrinkToTruss 26 = .ok (.goto (-22), 3) := by decide +kernel
theorem dX0_shrinkToTruss_29 : decode cX0_shrinkToTruss 29 = .ok (.return_, 1) := by decide +kernel
set_option maxRecDepth 20000 in
theorem ggX0_dropWeakEdges_X0_contains : GoodIn wsX0_dropWeakEdges wsX0_contains := goodIn_r _ [6, 7, 8, 5, 9] (by decide +kernel) (by decide +kernel)
set_option maxRecDepth 20000 in
theorem gX0_dropWeakEdges_X0_contains : GoodIn wsX0_dropWeakEdges (va_wsS RX0 40 yX0_contains wsX0_contains) := goodIn_app (goodIn_of _ (by decide +kernel)) ggX0_dropWeakEdges_X0_contains
set_option maxRecDepth 20000 in
theorem ggX0_dropWeakEdges_X0_size : GoodIn wsX0_dropWeakEdges wsX0_size := goodIn_r _ [12, 13, 14, 15, 16, 17, 18, 19] (by decide +kernel) (by decide +kernel)
set_option maxRecDepth 20000 in
theorem gX0_dropWeakEdges_X0_size : GoodIn wsX0_dropWeakEdges (va_wsS RX0 63 yX0_size wsX0_size) := goodIn_app (goodIn_of _ (by decide +kernel)) ggX0_dropWeakEdges_X0_size
set_option maxRecDepth 20000 in
theorem ggX0_dropWeakEdges_X0_without : GoodIn wsX0_dropWeakEdges wsX0_without := goodIn_r _ [22, 7, 8, 5, 9] (by decide +kernel) (by decide +kernel)
set_option maxRecDepth 20000 in
theorem gX0_dropWeakEdges_X0_without : GoodIn wsX0_dropWeakEdges (va_wsS RX0 115 yX0_without wsX0_without) := goodIn_app (goodIn_of _ (by decide +kernel)) ggX0_dropWeakEdges_X0_without
theorem dX0_dropWeakEdges_0 : decode cX0_dropWeakEdges 0 = .ok (.iconst 0, 1) := by decide +kernel
theorem dX0_dropWeakEdges_1 : decode cX0_dropWeakEdges 1 = .ok (.istore_n 2, 1) := by decide +kernel
theorem dX0_dropWeakEdges_2 : decode cX0_dropWeakEdges 2 = .ok (.iconst 0, 1) := by decide +kernel
theorem dX0_dropWeakEdges_3 : decode cX0_dropWeakEdges 3 = .ok (.istore_n 3, 1) := by decide +kernel
theorem dX0_dropWeakEdges_4 : decode cX0_dropWeakEdges 4 = .ok (.iload_n 3, 1) := by decide +kernel
theorem dX0_dropWeakEdges_5 : decode cX0_dropWeakEdges 5 = .ok (.aload_n 0, 1) := by decide +kernel
theorem dX0_dropWeakEdges_6 : decode cX0_dropWeakEdges 6 = .ok (.getfield 19, 3) := by decide +kernel
theorem dX0_dropWeakEdges_9 : decode cX0_dropWeakEdges 9 = .ok (.if_icmp .ge 101, 3) := by decide +kernel
theorem dX0_dropWeakEdges_12 : decode cX0_dropWeakEdges 12 = .ok (.iload_n 3, 1) := by decide +kernel
theorem dX0_dropWeakEdges_13 : decode cX0_dropWeakEdges 13 = .ok (.iconst 1, 1) := by decide +kernel
theorem dX0_dropWeakEdges_14 : decode cX0_dropWeakEdges 14 = .ok (.iadd, 1) := by decide +kernel
theorem dX0_dropWeakEdges_15 : decode cX0_dropWeakEdges 15 = .ok (.istore 4, 2) := by decide +kernel
theorem dX0_dropWeakEdges_17 : decode cX0_dropWeakEdges 17 = .ok (.iload 4, 2) := by decide +kernel
theorem dX0_dropWeakEdges_19 : decode cX0_dropWeakEdges 19 = .ok (.aload_n 0, 1) := by decide +kernel
theorem dX0_dropWeakEdges_20 : decode cX0_dropWeakEdges 20 = .ok (.getfield 19, 3) := by decide +kernel
theorem dX0_dropWeakEdges_23 : decode cX0_dropWeakEdges 23 = .ok (.if_icmp .ge 81, 3) := by decide +kernel
theorem dX0_dropWeakEdges_26 : decode cX0_dropWeakEdges 26 = .ok (.aload_n 0, 1) := by decide +kernel
theorem dX0_dropWeakEdges_27 : decode cX0_dropWeakEdges 27 = .ok (.getfield 16, 3) := by decide +kernel
theorem dX0_dropWeakEdges_30 : decode cX0_dropWeakEdges 30 = .ok (.iload_n 3, 1) := by decide +kernel
theorem dX0_dropWeakEdges_31 : decode cX0_dropWeakEdges 31 = .ok (.iaload, 1) := by decide +kernel
theorem dX0_dropWeakEdges_32 : decode cX0_dropWeakEdges 32 = .ok (.iload 4, 2) := by decide +kernel
theorem dX0_dropWeakEdges_34 : decode cX0_dropWeakEdges 34 = .ok (.invokestatic 40, 3) := by decide +kernel
theorem dX0_dropWeakEdges_37 : decode cX0_dropWeakEdges 37 = .ok (.ifCond .eq 61, 3) := by decide +kernel
theorem dX0_dropWeakEdges_40 : decode cX0_dropWeakEdges 40 = .ok (.aload_n 0, 1) := by decide +kernel
theorem dX0_dropWeakEdges_41 : decode cX0_dropWeakEdges 41 = .ok (.getfield 16, 3) := by decide +kernel
theorem dX0_dropWeakEdges_44 : decode cX0_dropWeakEdges 44 = .ok (.iload_n 3, 1) := by decide +kernel
theorem dX0_dropWeakEdges_45 : decode cX0_dropWeakEdges 45 = .ok (.iaload, 1) := by decide +kernel
theorem dX0_dropWeakEdges_46 : decode cX0_dropWeakEdges 46 = .ok (.aload_n 0, 1) := by decide +kernel
theorem dX0_dropWeakEdges_47 : decode cX0_dropWeakEdges 47 = .ok (.getfield 16, 3) := by decide +kernel
theorem dX0_dropWeakEdges_50 : decode cX0_dropWeakEdges 50 = .ok (.iload 4, 2) := by decide +kernel
theorem dX0_dropWeakEdges_52 : decode cX0_dropWeakEdges 52 = .ok (.iaload, 1) := by decide +kernel
theorem dX0_dropWeakEdges_53 : decode cX0_dropWeakEdges 53 = .ok (.iand, 1) := by decide +kernel
theorem dX0_dropWeakEdges_54 : decode cX0_dropWeakEdges 54 = .ok (.invokestatic 63, 3) := by decide +kernel
theorem dX0_dropWeakEdges_57 : decode cX0_dropWeakEdges 57 = .ok (.iload_n 1, 1) := by decide +kernel
theorem dX0_dropWeakEdges_58 : decode cX0_dropWeakEdges 58 = .ok (.if_icmp .ge 40, 3) := by decide +kernel
theorem dX0_dropWeakEdges_61 : decode cX0_dropWeakEdges 61 = .ok (.aload_n 0, 1) := by decide +kernel
theorem dX0_dropWeakEdges_62 : decode cX0_dropWeakEdges 62 = .ok (.getfield 16, 3) := by decide +kernel
theorem dX0_dropWeakEdges_65 : decode cX0_dropWeakEdges 65 = .ok (.iload_n 3, 1) := by decide +kernel
theorem dX0_dropWeakEdges_66 : decode cX0_dropWeakEdges 66 = .ok (.aload_n 0, 1) := by decide +kernel
theorem dX0_dropWeakEdges_67 : decode cX0_dropWeakEdges 67 = .ok (.getfield 16, 3) := by decide +kernel
theorem dX0_dropWeakEdges_70 : decode cX0_dropWeakEdges 70 = .ok (.iload_n 3, 1) := by decide +kernel
theorem dX0_dropWeakEdges_71 : decode cX0_dropWeakEdges 71 = .ok (.iaload, 1) := by decide +kernel
theorem dX0_dropWeakEdges_72 : decode cX0_dropWeakEdges 72 = .ok (.iload 4, 2) := by decide +kernel
theorem dX0_dropWeakEdges_74 : decode cX0_dropWeakEdges 74 = .ok (.invokestatic 115, 3) := by decide +kernel
theorem dX0_dropWeakEdges_77 : decode cX0_dropWeakEdges 77 = .ok (.iastore, 1) := by decide +kernel
theorem dX0_dropWeakEdges_78 : decode cX0_dropWeakEdges 78 = .ok (.aload_n 0, 1) := by decide +kernel
theorem dX0_dropWeakEdges_79 : decode cX0_dropWeakEdges 79 = .ok (.getfield 16, 3) := by decide +kernel
theorem dX0_dropWeakEdges_82 : decode cX0_dropWeakEdges 82 = .ok (.iload 4, 2) := by decide +kernel
theorem dX0_dropWeakEdges_84 : decode cX0_dropWeakEdges 84 = .ok (.aload_n 0, 1) := by decide +kernel
theorem dX0_dropWeakEdges_85 : decode cX0_dropWeakEdges 85 = .ok (.getfield 16, 3) := by decide +kernel
theorem dX0_dropWeakEdges_88 : decode cX0_dropWeakEdges 88 = .ok (.iload 4, 2) := by decide +kernel
theorem dX0_dropWeakEdges_90 : decode cX0_dropWeakEdges 90 = .ok (.iaload, 1) := by decide +kernel
theorem dX0_dropWeakEdges_91 : decode cX0_dropWeakEdges 91 = .ok (.iload_n 3, 1) := by decide +kernel
theorem dX0_dropWeakEdges_92 : decode cX0_dropWeakEdges 92 = .ok (.invokestatic 115, 3) := by decide +kernel
theorem dX0_dropWeakEdges_95 : decode cX0_dropWeakEdges 95 = .ok (.iastore, 1) := by decide +kernel
theorem dX0_dropWeakEdges_96 : decode cX0_dropWeakEdges 96 = .ok (.iconst 1, 1) := by decide +kernel
theorem dX0_dropWeakEdges_97 : decode cX0_dropWeakEdges 97 = .ok (.istore_n 2, 1) := by decide +kernel
theorem dX0_dropWeakEdges_98 : decode cX0_dropWeakEdges 98 = .ok (.iinc 4 1, 3) := by decide +kernel
theorem dX0_dropWeakEdges_101 : decode cX0_dropWeakEdges 101 = .ok (.goto (-84), 3) := by decide +kernel
theorem dX0_dropWeakEdges_104 : decode cX0_dropWeakEdges 104 = .ok (.iinc 3 1, 3) := by decide +kernel
theorem dX0_dropWeakEdges_107 : decode cX0_dropWeakEdges 107 = .ok (.goto (-103), 3) := by decide +kernel
theorem dX0_dropWeakEdges_110 : decode cX0_dropWeakEdges 110 = .ok (.iload_n 2, 1) := by decide +kernel
theorem dX0_dropWeakEdges_111 : decode cX0_dropWeakEdges 111 = .ok (.ireturn, 1) := by decide +kernel
