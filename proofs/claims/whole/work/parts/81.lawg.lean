set_option maxRecDepth 20000 in
theorem ggL_law_X0_init : GoodIn wsL_law wsX0_init := goodIn_r _ [9, 10, 11, 12, 13, 14, 15, 16, 17, 18, 19, 469, 470, 471, 472, 473, 474] (by decide +kernel) (by decide +kernel)
set_option maxRecDepth 20000 in
theorem gL_law_X0_init : GoodIn wsL_law (wsX0_init) := ggL_law_X0_init
set_option maxRecDepth 20000 in
theorem ggL_law_X1_init : GoodIn wsL_law wsX1_init := goodIn_r _ [22, 23, 11, 12, 13, 24, 25, 26, 27, 28, 475, 476, 477, 478, 479, 480, 481, 482, 483, 484] (by decide +kernel) (by decide +kernel)
set_option maxRecDepth 20000 in
theorem gL_law_X1_init : GoodIn wsL_law (wsX1_init) := ggL_law_X1_init
set_option maxRecDepth 20000 in
theorem ggL_law_L_addNode : GoodIn wsL_law wsL_addNode := goodIn_ca (goodIn_r _ [32, 33, 34, 35, 36, 2, 37, 38, 39, 17, 469, 470, 471, 472, 473, 474] (by decide +kernel) (by decide +kernel)) (goodIn_sub (fun _ h => List.mem_append_left _ (List.mem_append_left _ (List.mem_append_left _ (List.mem_append_right _ h)))) (by decide +kernel))
set_option maxRecDepth 20000 in
theorem gL_law_L_addNode : GoodIn wsL_law (va_wsS RL 77 yL_addNode wsL_addNode) := goodIn_app (goodIn_of _ (by decide +kernel)) ggL_law_L_addNode
set_option maxRecDepth 20000 in
theorem ggL_law_X1_addNode : GoodIn wsL_law wsX1_addNode := goodIn_r _ [43, 44, 24, 45, 46, 47, 5, 48, 49, 475, 476, 477, 478, 479, 480, 481, 482, 483, 484] (by decide +kernel) (by decide +kernel)
set_option maxRecDepth 20000 in
theorem gL_law_X1_addNode : GoodIn wsL_law (wsV RL 82 RX1 yX1_addNode wsX1_addNode) := goodIn_app (goodIn_of _ (by decide +kernel)) ggL_law_X1_addNode
set_option maxRecDepth 20000 in
theorem ggL_law_X1_thrown : GoodIn wsL_law wsX1_thrown := goodIn_r _ [53, 49, 475, 476, 477, 478, 479, 480, 481, 482, 483, 484] (by decide +kernel) (by decide +kernel)
set_option maxRecDepth 20000 in
theorem gL_law_X1_thrown : GoodIn wsL_law (wsV RL 83 RX1 yX1_thrown wsX1_thrown) := goodIn_app (goodIn_of _ (by decide +kernel)) ggL_law_X1_thrown
set_option maxRecDepth 20000 in
theorem ggL_law_L_join : GoodIn wsL_law wsL_join := goodIn_ca (goodIn_ca (goodIn_ca (goodIn_r _ [56, 57, 58, 33, 59, 60, 61, 2, 62, 38, 39, 14, 18, 63, 64, 65, 66, 67, 68, 69, 70, 71, 72, 73, 74, 17, 75, 76, 77, 78, 79, 80, 81, 82, 83, 84, 85, 86, 87, 15, 88, 89, 90, 91, 92, 93, 94, 95, 96, 97, 98, 99, 100, 101, 102, 103, 104, 105, 106, 107, 108, 109, 110, 111, 112, 113, 114, 115, 116, 117, 118, 119, 120, 121, 122, 123, 124, 125, 126, 127, 128, 19, 469, 470, 471, 472, 473, 474] (by decide +kernel) (by decide +kernel)) (goodIn_sub (fun _ h => List.mem_append_left _ (List.mem_append_left _ (List.mem_append_left _ (List.mem_append_right _ h)))) (by decide +kernel))) (goodIn_sub (fun _ h => List.mem_append_left _ (List.mem_append_left _ (List.mem_append_right _ h))) (by decide +kernel))) (goodIn_sub (fun _ h => List.mem_append_left _ (List.mem_append_right _ h)) (by decide +kernel))
set_option maxRecDepth 20000 in
theorem gL_law_L_join : GoodIn wsL_law (va_wsS RL 86 yL_join wsL_join) := goodIn_app (goodIn_of _ (by decide +kernel)) ggL_law_L_join
set_option maxRecDepth 20000 in
theorem ggL_law_X1_join : GoodIn wsL_law wsX1_join := goodIn_r _ [132, 24, 133, 134, 135, 5, 136, 137, 138, 139, 140, 44, 141, 142, 143, 45, 46, 47, 48, 49, 144, 145, 146, 147, 26, 25, 148, 149, 150, 151, 152, 153, 154, 155, 156, 157, 158, 159, 160, 161, 162, 163, 475, 476, 477, 478, 479, 480, 481, 482, 483, 484] (by decide +kernel) (by decide +kernel)
set_option maxRecDepth 20000 in
theorem gL_law_X1_join : GoodIn wsL_law (wsV RL 89 RX1 yX1_join wsX1_join) := goodIn_app (goodIn_of _ (by decide +kernel)) ggL_law_X1_join
set_option maxRecDepth 20000 in
theorem ggL_law_L_part : GoodIn wsL_law wsL_part := goodIn_ca (goodIn_ca (goodIn_ca (goodIn_r _ [166, 57, 58, 167, 168, 169, 170, 2, 171, 63, 64, 65, 66, 67, 68, 69, 70, 71, 72, 73, 74, 17, 172, 173, 174, 175, 176, 177, 14, 75, 76, 77, 78, 79, 80, 178, 179, 180, 181, 15, 88, 89, 90, 91, 18, 122, 123, 124, 92, 93, 94, 95, 81, 82, 83, 96, 97, 98, 99, 100, 101, 102, 103, 104, 105, 106, 107, 108, 109, 110, 111, 112, 113, 114, 115, 116, 117, 118, 119, 120, 121, 125, 126, 127, 128, 19, 469, 470, 471, 472, 473, 474] (by decide +kernel) (by decide +kernel)) (goodIn_sub (fun _ h => List.mem_append_left _ (List.mem_append_left _ (List.mem_append_right _ h))) (by decide +kernel))) (goodIn_sub (fun _ h => List.mem_append_left _ (List.mem_append_right _ h)) (by decide +kernel))) (goodIn_sub (fun _ h => List.mem_append_right _ h) (by decide +kernel))
set_option maxRecDepth 20000 in
theorem gL_law_L_part : GoodIn wsL_law (va_wsS RL 90 yL_part wsL_part) := goodIn_app (goodIn_of _ (by decide +kernel)) ggL_law_L_part
set_option maxRecDepth 20000 in
theorem ggL_law_X1_part : GoodIn wsL_law wsX1_part := goodIn_r _ [185, 24, 133, 134, 135, 5, 136, 137, 138, 139, 140, 44, 141, 142, 143, 45, 46, 47, 48, 49, 144, 145, 146, 147, 26, 25, 148, 149, 150, 151, 152, 153, 154, 155, 156, 157, 158, 159, 160, 161, 162, 163, 475, 476, 477, 478, 479, 480, 481, 482, 483, 484] (by decide +kernel) (by decide +kernel)
set_option maxRecDepth 20000 in
theorem gL_law_X1_part : GoodIn wsL_law (wsV RL 92 RX1 yX1_part wsX1_part) := goodIn_app (goodIn_of _ (by decide +kernel)) ggL_law_X1_part
set_option maxRecDepth 20000 in
theorem ggL_law_L_isolate : GoodIn wsL_law wsL_isolate := goodIn_ca (goodIn_r _ [188, 57, 189, 190, 191, 2, 192, 17, 14, 69, 70, 71, 72, 73, 74, 75, 76, 77, 78, 79, 80, 178, 179, 180, 181, 15, 88, 89, 90, 91, 18, 122, 123, 124, 92, 93, 94, 95, 81, 82, 83, 96, 97, 98, 99, 100, 101, 102, 103, 104, 105, 106, 107, 108, 109, 110, 111, 112, 113, 114, 115, 116, 117, 118, 119, 120, 121, 125, 126, 127, 128, 19, 469, 470, 471, 472, 473, 474] (by decide +kernel) (by decide +kernel)) (goodIn_sub (fun _ h => List.mem_append_left _ (List.mem_append_right _ h)) (by decide +kernel))
set_option maxRecDepth 20000 in
theorem gL_law_L_isolate : GoodIn wsL_law (va_wsS RL 93 yL_isolate wsL_isolate) := goodIn_app (goodIn_of _ (by decide +kernel)) ggL_law_L_isolate
set_option maxRecDepth 20000 in
theorem ggL_law_X1_isolate : GoodIn wsL_law wsX1_isolate := goodIn_r _ [196, 44, 24, 137, 138, 139, 5, 140, 45, 46, 47, 48, 49, 141, 142, 143, 144, 145, 146, 147, 26, 25, 148, 149, 150, 151, 152, 153, 154, 155, 156, 157, 158, 159, 160, 161, 162, 163, 475, 476, 477, 478, 479, 480, 481, 482, 483, 484] (by decide +kernel) (by decide +kernel)
set_option maxRecDepth 20000 in
theorem gL_law_X1_isolate : GoodIn wsL_law (wsV RL 96 RX1 yX1_isolate wsX1_isolate) := goodIn_app (goodIn_of _ (by decide +kernel)) ggL_law_X1_isolate
set_option maxRecDepth 20000 in
theorem ggL_law_X0_nodes : GoodIn wsL_law wsX0_nodes := goodIn_r _ [200, 17, 469, 470, 471, 472, 473, 474] (by decide +kernel) (by decide +kernel)
set_option maxRecDepth 20000 in
theorem gL_law_X0_nodes : GoodIn wsL_law (wsV RL 97 RX0 yX0_nodes wsX0_nodes) := goodIn_app (goodIn_of _ (by decide +kernel)) ggL_law_X0_nodes
set_option maxRecDepth 20000 in
theorem ggL_law_X1_nodes : GoodIn wsL_law wsX1_nodes := goodIn_r _ [204, 49, 44, 475, 476, 477, 478, 479, 480, 481, 482, 483, 484] (by decide +kernel) (by decide +kernel)
set_option maxRecDepth 20000 in
theorem gL_law_X1_nodes : GoodIn wsL_law (wsV RL 100 RX1 yX1_nodes wsX1_nodes) := goodIn_app (goodIn_of _ (by decide +kernel)) ggL_law_X1_nodes
set_option maxRecDepth 20000 in
theorem ggL_law_X0_edges : GoodIn wsL_law wsX0_edges := goodIn_r _ [208, 18, 469, 470, 471, 472, 473, 474] (by decide +kernel) (by decide +kernel)
set_option maxRecDepth 20000 in
theorem gL_law_X0_edges : GoodIn wsL_law (wsV RL 101 RX0 yX0_edges wsX0_edges) := goodIn_app (goodIn_of _ (by decide +kernel)) ggL_law_X0_edges
set_option maxRecDepth 20000 in
theorem ggL_law_X1_edges : GoodIn wsL_law wsX1_edges := goodIn_r _ [212, 49, 157, 158, 159, 5, 160, 44, 213, 214, 215, 216, 24, 141, 142, 143, 161, 162, 163, 475, 476, 477, 478, 479, 480, 481, 482, 483, 484] (by decide +kernel) (by decide +kernel)
set_option maxRecDepth 20000 in
theorem gL_law_X1_edges : GoodIn wsL_law (wsV RL 104 RX1 yX1_edges wsX1_edges) := goodIn_app (goodIn_of _ (by decide +kernel)) ggL_law_X1_edges
set_option maxRecDepth 20000 in
theorem ggL_law_L_degree : GoodIn wsL_law wsL_degree := goodIn_ca (goodIn_r _ [219, 57, 220, 221, 222, 2, 223, 14, 69, 70, 71, 72, 73, 74, 17, 112, 113, 114, 115, 116, 117, 118, 119, 120, 121, 469, 470, 471, 472, 473, 474] (by decide +kernel) (by decide +kernel)) (goodIn_sub (fun _ h => List.mem_append_left _ (List.mem_append_right _ h)) (by decide +kernel))
set_option maxRecDepth 20000 in
theorem gL_law_L_degree : GoodIn wsL_law (va_wsS RL 105 yL_degree wsL_degree) := goodIn_app (goodIn_of _ (by decide +kernel)) ggL_law_L_degree
set_option maxRecDepth 20000 in
theorem ggL_law_X1_degree : GoodIn wsL_law wsX1_degree := goodIn_r _ [227, 24, 137, 138, 139, 5, 140, 44, 45, 46, 47, 48, 49, 161, 162, 163, 475, 476, 477, 478, 479, 480, 481, 482, 483, 484] (by decide +kernel) (by decide +kernel)
set_option maxRecDepth 20000 in
theorem gL_law_X1_degree : GoodIn wsL_law (wsV RL 107 RX1 yX1_degree wsX1_degree) := goodIn_app (goodIn_of _ (by decide +kernel)) ggL_law_X1_degree
set_option maxRecDepth 20000 in
theorem ggL_law_L_neighbour : GoodIn wsL_law wsL_neighbour := goodIn_ca (goodIn_r _ [230, 57, 231, 232, 233, 2, 234, 73, 74, 17, 14, 69, 70, 71, 72, 75, 76, 77, 78, 79, 80, 469, 470, 471, 472, 473, 474] (by decide +kernel) (by decide +kernel)) (goodIn_sub (fun _ h => List.mem_append_left _ (List.mem_append_right _ h)) (by decide +kernel))
set_option maxRecDepth 20000 in
theorem gL_law_L_neighbour : GoodIn wsL_law (va_wsS RL 108 yL_neighbour wsL_neighbour) := goodIn_app (goodIn_of _ (by decide +kernel)) ggL_law_L_neighbour
set_option maxRecDepth 20000 in
theorem ggL_law_X1_neighbour : GoodIn wsL_law wsX1_neighbour := goodIn_r _ [238, 24, 137, 138, 139, 5, 140, 44, 161, 162, 163, 45, 46, 47, 48, 49, 141, 142, 143, 475, 476, 477, 478, 479, 480, 481, 482, 483, 484] (by decide +kernel) (by decide +kernel)
set_option maxRecDepth 20000 in
theorem gL_law_X1_neighbour : GoodIn wsL_law (wsV RL 110 RX1 yX1_neighbour wsX1_neighbour) := goodIn_app (goodIn_of _ (by decide +kernel)) ggL_law_X1_neighbour
set_option maxRecDepth 20000 in
theorem ggL_law_L_areJoined : GoodIn wsL_law wsL_areJoined := goodIn_ca (goodIn_r _ [241, 57, 242, 243, 244, 2, 245, 14, 69, 70, 71, 72, 73, 74, 17, 75, 76, 77, 78, 79, 80, 469, 470, 471, 472, 473, 474] (by decide +kernel) (by decide +kernel)) (goodIn_sub (fun _ h => List.mem_append_left _ (List.mem_append_right _ h)) (by decide +kernel))
set_option maxRecDepth 20000 in
theorem gL_law_L_areJoined : GoodIn wsL_law (va_wsS RL 111 yL_areJoined wsL_areJoined) := goodIn_app (goodIn_of _ (by decide +kernel)) ggL_law_L_areJoined
set_option maxRecDepth 20000 in
theorem ggL_law_X1_areJoined : GoodIn wsL_law wsX1_areJoined := goodIn_r _ [249, 24, 137, 138, 139, 5, 140, 44, 45, 46, 47, 48, 49, 141, 142, 143, 475, 476, 477, 478, 479, 480, 481, 482, 483, 484] (by decide +kernel) (by decide +kernel)
set_option maxRecDepth 20000 in
theorem gL_law_X1_areJoined : GoodIn wsL_law (wsV RL 113 RX1 yX1_areJoined wsX1_areJoined) := goodIn_app (goodIn_of _ (by decide +kernel)) ggL_law_X1_areJoined
set_option maxRecDepth 20000 in
theorem ggL_law_L_core : GoodIn wsL_law wsL_core := goodIn_ca (goodIn_r _ [252, 57, 253, 254, 255, 2, 256, 15, 69, 70, 71, 72, 73, 74, 17, 469, 470, 471, 472, 473, 474] (by decide +kernel) (by decide +kernel)) (goodIn_sub (fun _ h => List.mem_append_left _ (List.mem_append_right _ h)) (by decide +kernel))
set_option maxRecDepth 20000 in
theorem gL_law_L_core : GoodIn wsL_law (va_wsS RL 114 yL_core wsL_core) := goodIn_app (goodIn_of _ (by decide +kernel)) ggL_law_L_core
set_option maxRecDepth 20000 in
theorem ggL_law_X1_core : GoodIn wsL_law wsX1_core := goodIn_r _ [260, 25, 137, 138, 139, 5, 140, 44, 45, 46, 47, 48, 49, 149, 150, 151, 152, 153, 154, 155, 156, 24, 157, 158, 159, 160, 141, 142, 143, 161, 162, 163, 475, 476, 477, 478, 479, 480, 481, 482, 483, 484] (by decide +kernel) (by decide +kernel)
set_option maxRecDepth 20000 in
theorem gL_law_X1_core : GoodIn wsL_law (wsV RL 116 RX1 yX1_core wsX1_core) := goodIn_app (goodIn_of _ (by decide +kernel)) ggL_law_X1_core
set_option maxRecDepth 20000 in
theorem ggL_law_X0_degeneracy : GoodIn wsL_law wsX0_degeneracy := goodIn_r _ [264, 17, 15, 265, 266, 90, 267, 469, 470, 471, 472, 473, 474] (by decide +kernel) (by decide +kernel)
set_option maxRecDepth 20000 in
theorem gL_law_X0_degeneracy : GoodIn wsL_law (wsV RL 117 RX0 yX0_degeneracy wsX0_degeneracy) := goodIn_app (goodIn_of _ (by decide +kernel)) ggL_law_X0_degeneracy
set_option maxRecDepth 20000 in
theorem ggL_law_X1_degeneracy : GoodIn wsL_law wsX1_degeneracy := goodIn_r _ [271, 49, 153, 154, 155, 5, 156, 44, 24, 157, 158, 159, 160, 141, 142, 143, 161, 162, 163, 475, 476, 477, 478, 479, 480, 481, 482, 483, 484] (by decide +kernel) (by decide +kernel)
set_option maxRecDepth 20000 in
theorem gL_law_X1_degeneracy : GoodIn wsL_law (wsV RL 120 RX1 yX1_degeneracy wsX1_degeneracy) := goodIn_app (goodIn_of _ (by decide +kernel)) ggL_law_X1_degeneracy
set_option maxRecDepth 20000 in
theorem ggL_law_L_coreSize : GoodIn wsL_law wsL_coreSize := goodIn_ca (goodIn_r _ [274, 58, 275, 276, 277, 2, 278, 279, 280, 281, 67, 68, 100, 101, 102, 103, 17, 15, 81, 82, 83, 78, 79, 80, 112, 113, 114, 115, 116, 117, 118, 119, 120, 121, 469, 470, 471, 472, 473, 474] (by decide +kernel) (by decide +kernel)) (goodIn_sub (fun _ h => List.mem_append_left _ (List.mem_append_left _ (List.mem_append_right _ h))) (by decide +kernel))
set_option maxRecDepth 20000 in
theorem gL_law_L_coreSize : GoodIn wsL_law (va_wsS RL 121 yL_coreSize wsL_coreSize) := goodIn_app (goodIn_of _ (by decide +kernel)) ggL_law_L_coreSize
set_option maxRecDepth 20000 in
theorem ggL_law_X1_coreSize : GoodIn wsL_law wsX1_coreSize := goodIn_r _ [285, 45, 46, 47, 5, 48, 49, 153, 154, 155, 156, 44, 24, 157, 158, 159, 160, 141, 142, 143, 161, 162, 163, 475, 476, 477, 478, 479, 480, 481, 482, 483, 484] (by decide +kernel) (by decide +kernel)
set_option maxRecDepth 20000 in
theorem gL_law_X1_coreSize : GoodIn wsL_law (wsV RL 123 RX1 yX1_coreSize wsX1_coreSize) := goodIn_app (goodIn_of _ (by decide +kernel)) ggL_law_X1_coreSize
set_option maxRecDepth 20000 in
theorem ggL_law_X0_changes : GoodIn wsL_law wsX0_changes := goodIn_r _ [289, 19, 469, 470, 471, 472, 473, 474] (by decide +kernel) (by decide +kernel)
set_option maxRecDepth 20000 in
theorem gL_law_X0_changes : GoodIn wsL_law (wsV RL 124 RX0 yX0_changes wsX0_changes) := goodIn_app (goodIn_of _ (by decide +kernel)) ggL_law_X0_changes
set_option maxRecDepth 20000 in
theorem ggL_law_X1_changes : GoodIn wsL_law wsX1_changes := goodIn_r _ [293, 49, 148, 475, 476, 477, 478, 479, 480, 481, 482, 483, 484] (by decide +kernel) (by decide +kernel)
set_option maxRecDepth 20000 in
theorem gL_law_X1_changes : GoodIn wsL_law (wsV RL 127 RX1 yX1_changes wsX1_changes) := goodIn_app (goodIn_of _ (by decide +kernel)) ggL_law_X1_changes
set_option maxRecDepth 20000 in
theorem ggL_law_L_community : GoodIn wsL_law wsL_community := goodIn_ca (goodIn_ca (goodIn_r _ [296, 57, 58, 297, 298, 299, 2, 300, 69, 70, 71, 72, 73, 74, 17, 279, 280, 281, 67, 68, 78, 79, 80, 100, 101, 102, 103, 15, 81, 82, 83, 104, 105, 106, 107, 14, 75, 76, 77, 112, 113, 114, 115, 116, 117, 118, 119, 120, 121, 469, 470, 471, 472, 473, 474] (by decide +kernel) (by decide +kernel)) (goodIn_sub (fun _ h => List.mem_append_left _ (List.mem_append_right _ h)) (by decide +kernel))) (goodIn_sub (fun _ h => List.mem_append_left _ (List.mem_append_left _ (List.mem_append_right _ h))) (by decide +kernel))
set_option maxRecDepth 20000 in
theorem gL_law_L_community : GoodIn wsL_law (va_wsS RL 128 yL_community wsL_community) := goodIn_app (goodIn_of _ (by decide +kernel)) ggL_law_L_community
set_option maxRecDepth 20000 in
theorem ggL_law_X1_community : GoodIn wsL_law wsX1_community := goodIn_r _ [304, 137, 138, 139, 5, 140, 44, 45, 46, 47, 48, 49, 305, 306, 307, 308, 24, 153, 154, 155, 156, 157, 158, 159, 160, 141, 142, 143, 161, 162, 163, 475, 476, 477, 478, 479, 480, 481, 482, 483, 484] (by decide +kernel) (by decide +kernel)
set_option maxRecDepth 20000 in
theorem gL_law_X1_community : GoodIn wsL_law (wsV RL 130 RX1 yX1_community wsX1_community) := goodIn_app (goodIn_of _ (by decide +kernel)) ggL_law_X1_community
set_option maxRecDepth 20000 in
theorem ggL_law_L_communities : GoodIn wsL_law wsL_communities := goodIn_ca (goodIn_r _ [311, 58, 312, 313, 314, 2, 315, 279, 280, 281, 67, 68, 100, 101, 102, 103, 17, 15, 81, 82, 83, 78, 79, 80, 316, 317, 318, 319, 75, 76, 77, 104, 105, 106, 107, 14, 469, 470, 471, 472, 473, 474] (by decide +kernel) (by decide +kernel)) (goodIn_sub (fun _ h => List.mem_append_left _ (List.mem_append_left _ (List.mem_append_right _ h))) (by decide +kernel))
set_option maxRecDepth 20000 in
theorem gL_law_L_communities : GoodIn wsL_law (va_wsS RL 131 yL_communities wsL_communities) := goodIn_app (goodIn_of _ (by decide +kernel)) ggL_law_L_communities
set_option maxRecDepth 20000 in
theorem ggL_law_X1_communities : GoodIn wsL_law wsX1_communities := goodIn_r _ [323, 44, 45, 46, 47, 5, 48, 49, 305, 306, 307, 308, 24, 153, 154, 155, 156, 157, 158, 159, 160, 141, 142, 143, 161, 162, 163, 324, 325, 326, 327, 475, 476, 477, 478, 479, 480, 481, 482, 483, 484] (by decide +kernel) (by decide +kernel)
set_option maxRecDepth 20000 in
theorem gL_law_X1_communities : GoodIn wsL_law (wsV RL 133 RX1 yX1_communities wsX1_communities) := goodIn_app (goodIn_of _ (by decide +kernel)) ggL_law_X1_communities
set_option maxRecDepth 20000 in
theorem ggL_law_L_together : GoodIn wsL_law wsL_together := goodIn_ca (goodIn_ca (goodIn_r _ [330, 57, 167, 331, 332, 333, 2, 334, 176, 177, 15, 88, 89, 90, 91, 69, 70, 71, 72, 73, 74, 17, 78, 79, 80, 100, 101, 102, 103, 81, 82, 83, 104, 105, 106, 107, 14, 75, 76, 77, 469, 470, 471, 472, 473, 474] (by decide +kernel) (by decide +kernel)) (goodIn_sub (fun _ h => List.mem_append_right _ h) (by decide +kernel))) (goodIn_sub (fun _ h => List.mem_append_left _ (List.mem_append_right _ h)) (by decide +kernel))
set_option maxRecDepth 20000 in
theorem gL_law_L_together : GoodIn wsL_law (va_wsS RL 134 yL_together wsL_together) := goodIn_app (goodIn_of _ (by decide +kernel)) ggL_law_L_together
set_option maxRecDepth 20000 in
theorem ggL_law_X1_together : GoodIn wsL_law wsX1_together := goodIn_r _ [338, 137, 138, 139, 5, 140, 44, 305, 306, 307, 308, 24, 153, 154, 155, 156, 157, 158, 159, 160, 141, 142, 143, 161, 162, 163, 45, 46, 47, 48, 49, 475, 476, 477, 478, 479, 480, 481, 482, 483, 484] (by decide +kernel) (by decide +kernel)
set_option maxRecDepth 20000 in
theorem gL_law_X1_together : GoodIn wsL_law (wsV RL 136 RX1 yX1_together wsX1_together) := goodIn_app (goodIn_of _ (by decide +kernel)) ggL_law_X1_together
set_option maxRecDepth 20000 in
theorem ggL_law_X0_hierarchy : GoodIn wsL_law wsX0_hierarchy := goodIn_r _ [342, 343, 262, 263, 2, 264, 17, 15, 265, 266, 90, 267, 100, 101, 102, 103, 81, 82, 83, 78, 79, 80, 96, 97, 98, 99, 316, 317, 318, 319, 75, 76, 77, 104, 105, 106, 107, 14, 469, 470, 471, 472, 473, 474] (by decide +kernel) (by decide +kernel)
set_option maxRecDepth 20000 in
theorem gL_law_X0_hierarchy : GoodIn wsL_law (wsV RL 137 RX0 yX0_hierarchy wsX0_hierarchy) := goodIn_app (goodIn_of _ (by decide +kernel)) ggL_law_X0_hierarchy
set_option maxRecDepth 20000 in
theorem ggL_law_X1_hierarchy : GoodIn wsL_law wsX1_hierarchy := goodIn_r _ [347, 49, 44, 305, 306, 307, 5, 308, 24, 153, 154, 155, 156, 157, 158, 159, 160, 141, 142, 143, 161, 162, 163, 324, 325, 326, 327, 475, 476, 477, 478, 479, 480, 481, 482, 483, 484] (by decide +kernel) (by decide +kernel)
set_option maxRecDepth 20000 in
theorem gL_law_X1_hierarchy : GoodIn wsL_law (wsV RL 140 RX1 yX1_hierarchy wsX1_hierarchy) := goodIn_app (goodIn_of _ (by decide +kernel)) ggL_law_X1_hierarchy
set_option maxRecDepth 20000 in
theorem ggL_law_L_peeled : GoodIn wsL_law wsL_peeled := goodIn_ca (goodIn_r _ [350, 57, 351, 352, 353, 2, 354, 73, 74, 17, 355, 356, 357, 358, 78, 79, 80, 359, 360, 361, 362, 14, 75, 76, 77, 112, 113, 114, 115, 116, 117, 118, 119, 120, 121, 122, 123, 124, 469, 470, 471, 472, 473, 474] (by decide +kernel) (by decide +kernel)) (goodIn_sub (fun _ h => List.mem_append_left _ (List.mem_append_right _ h)) (by decide +kernel))
set_option maxRecDepth 20000 in
theorem gL_law_L_peeled : GoodIn wsL_law (va_wsS RL 141 yL_peeled wsL_peeled) := goodIn_app (goodIn_of _ (by decide +kernel)) ggL_law_L_peeled
set_option maxRecDepth 20000 in
theorem ggL_law_X1_peeled : GoodIn wsL_law wsX1_peeled := goodIn_r _ [366, 28, 137, 138, 139, 5, 140, 44, 45, 46, 47, 48, 49, 367, 368, 369, 370, 371, 372, 24, 157, 158, 159, 160, 213, 214, 215, 216, 141, 142, 143, 161, 162, 163, 475, 476, 477, 478, 479, 480, 481, 482, 483, 484] (by decide +kernel) (by decide +kernel)
set_option maxRecDepth 20000 in
theorem gL_law_X1_peeled : GoodIn wsL_law (wsV RL 143 RX1 yX1_peeled wsX1_peeled) := goodIn_app (goodIn_of _ (by decide +kernel)) ggL_law_X1_peeled
set_option maxRecDepth 20000 in
theorem ggL_law_X0_denseSize : GoodIn wsL_law wsX0_denseSize := goodIn_r _ [376, 377, 378, 379, 2, 380, 18, 17, 355, 356, 357, 358, 78, 79, 80, 359, 360, 361, 362, 14, 75, 76, 77, 112, 113, 114, 115, 116, 117, 118, 119, 120, 121, 122, 123, 124, 381, 382, 383, 384, 469, 470, 471, 472, 473, 474] (by decide +kernel) (by decide +kernel)
set_option maxRecDepth 20000 in
theorem gL_law_X0_denseSize : GoodIn wsL_law (wsV RL 144 RX0 yX0_denseSize wsX0_denseSize) := goodIn_app (goodIn_of _ (by decide +kernel)) ggL_law_X0_denseSize
set_option maxRecDepth 20000 in
theorem ggL_law_X1_denseSize : GoodIn wsL_law wsX1_denseSize := goodIn_r _ [388, 49, 371, 367, 368, 369, 5, 370, 372, 44, 24, 28, 157, 158, 159, 160, 213, 214, 215, 216, 141, 142, 143, 161, 162, 163, 475, 476, 477, 478, 479, 480, 481, 482, 483, 484] (by decide +kernel) (by decide +kernel)
set_option maxRecDepth 20000 in
theorem gL_law_X1_denseSize : GoodIn wsL_law (wsV RL 147 RX1 yX1_denseSize wsX1_denseSize) := goodIn_app (goodIn_of _ (by decide +kernel)) ggL_law_X1_denseSize
set_option maxRecDepth 20000 in
theorem ggL_law_L_isDense : GoodIn wsL_law wsL_isDense := goodIn_ca (goodIn_r _ [391, 57, 392, 393, 394, 2, 395, 69, 70, 71, 72, 73, 74, 17, 377, 378, 379, 380, 18, 355, 356, 357, 358, 78, 79, 80, 359, 360, 361, 362, 14, 75, 76, 77, 112, 113, 114, 115, 116, 117, 118, 119, 120, 121, 122, 123, 124, 381, 382, 383, 384, 469, 470, 471, 472, 473, 474] (by decide +kernel) (by decide +kernel)) (goodIn_sub (fun _ h => List.mem_append_left _ (List.mem_append_right _ h)) (by decide +kernel))
set_option maxRecDepth 20000 in
theorem gL_law_L_isDense : GoodIn wsL_law (va_wsS RL 148 yL_isDense wsL_isDense) := goodIn_app (goodIn_of _ (by decide +kernel)) ggL_law_L_isDense
set_option maxRecDepth 20000 in
theorem ggL_law_X1_isDense : GoodIn wsL_law wsX1_isDense := goodIn_r _ [399, 371, 137, 138, 139, 5, 140, 44, 45, 46, 47, 48, 49, 367, 368, 369, 370, 372, 24, 28, 157, 158, 159, 160, 213, 214, 215, 216, 141, 142, 143, 161, 162, 163, 475, 476, 477, 478, 479, 480, 481, 482, 483, 484] (by decide +kernel) (by decide +kernel)
set_option maxRecDepth 20000 in
theorem gL_law_X1_isDense : GoodIn wsL_law (wsV RL 150 RX1 yX1_isDense wsX1_isDense) := goodIn_app (goodIn_of _ (by decide +kernel)) ggL_law_X1_isDense
set_option maxRecDepth 20000 in
theorem ggL_law_X0_density : GoodIn wsL_law wsX0_density := goodIn_r _ [403, 377, 378, 379, 2, 380, 18, 17, 355, 356, 357, 358, 78, 79, 80, 359, 360, 361, 362, 14, 75, 76, 77, 112, 113, 114, 115, 116, 117, 118, 119, 120, 121, 122, 123, 124, 381, 382, 383, 384, 469, 470, 471, 472, 473, 474] (by decide +kernel) (by decide +kernel)
set_option maxRecDepth 20000 in
theorem gL_law_X0_density : GoodIn wsL_law (wsV RL 151 RX0 yX0_density wsX0_density) := goodIn_app (goodIn_of _ (by decide +kernel)) ggL_law_X0_density
set_option maxRecDepth 20000 in
theorem ggL_law_X1_density : GoodIn wsL_law wsX1_density := goodIn_r _ [407, 49, 44, 372, 371, 367, 368, 369, 5, 370, 24, 28, 157, 158, 159, 160, 213, 214, 215, 216, 141, 142, 143, 161, 162, 163, 475, 476, 477, 478, 479, 480, 481, 482, 483, 484] (by decide +kernel) (by decide +kernel)
set_option maxRecDepth 20000 in
theorem gL_law_X1_density : GoodIn wsL_law (wsV RL 155 RX1 yX1_density wsX1_density) := goodIn_app (goodIn_of _ (by decide +kernel)) ggL_law_X1_density
set_option maxRecDepth 20000 in
theorem ggL_law_L_support : GoodIn wsL_law wsL_support := goodIn_ca (goodIn_ca (goodIn_r _ [410, 57, 167, 411, 412, 413, 2, 414, 14, 69, 70, 71, 72, 73, 74, 17, 172, 173, 174, 175, 176, 177, 75, 76, 77, 78, 79, 80, 112, 113, 114, 115, 116, 117, 118, 119, 120, 121, 469, 470, 471, 472, 473, 474] (by decide +kernel) (by decide +kernel)) (goodIn_sub (fun _ h => List.mem_append_left _ (List.mem_append_right _ h)) (by decide +kernel))) (goodIn_sub (fun _ h => List.mem_append_right _ h) (by decide +kernel))
set_option maxRecDepth 20000 in
theorem gL_law_L_support : GoodIn wsL_law (va_wsS RL 156 yL_support wsL_support) := goodIn_app (goodIn_of _ (by decide +kernel)) ggL_law_L_support
set_option maxRecDepth 20000 in
theorem ggL_law_X1_support : GoodIn wsL_law wsX1_support := goodIn_r _ [418, 24, 419, 420, 421, 5, 422, 137, 138, 139, 140, 44, 141, 142, 143, 45, 46, 47, 48, 49, 161, 162, 163, 475, 476, 477, 478, 479, 480, 481, 482, 483, 484] (by decide +kernel) (by decide +kernel)
set_option maxRecDepth 20000 in
theorem gL_law_X1_support : GoodIn wsL_law (wsV RL 158 RX1 yX1_support wsX1_support) := goodIn_app (goodIn_of _ (by decide +kernel)) ggL_law_X1_support
set_option maxRecDepth 20000 in
theorem ggL_law_X0_triangles : GoodIn wsL_law wsX0_triangles := goodIn_r _ [426, 17, 14, 75, 76, 2, 77, 78, 79, 80, 112, 113, 114, 115, 116, 117, 118, 119, 120, 121, 469, 470, 471, 472, 473, 474] (by decide +kernel) (by decide +kernel)
set_option maxRecDepth 20000 in
theorem gL_law_X0_triangles : GoodIn wsL_law (wsV RL 159 RX0 yX0_triangles wsX0_triangles) := goodIn_app (goodIn_of _ (by decide +kernel)) ggL_law_X0_triangles
set_option maxRecDepth 20000 in
theorem ggL_law_X1_triangles : GoodIn wsL_law wsX1_triangles := goodIn_r _ [430, 49, 44, 24, 141, 142, 5, 143, 161, 162, 163, 475, 476, 477, 478, 479, 480, 481, 482, 483, 484] (by decide +kernel) (by decide +kernel)
set_option maxRecDepth 20000 in
theorem gL_law_X1_triangles : GoodIn wsL_law (wsV RL 162 RX1 yX1_triangles wsX1_triangles) := goodIn_app (goodIn_of _ (by decide +kernel)) ggL_law_X1_triangles
set_option maxRecDepth 20000 in
theorem ggL_law_L_truss : GoodIn wsL_law wsL_truss := goodIn_ca (goodIn_ca (goodIn_r _ [433, 57, 167, 434, 435, 436, 2, 437, 16, 69, 70, 71, 72, 73, 74, 17, 172, 173, 174, 175, 176, 177, 14, 75, 76, 77, 78, 79, 80, 438, 439, 440, 441, 442, 443, 444, 445, 446, 447, 448, 449, 112, 113, 114, 115, 116, 117, 118, 119, 120, 121, 122, 123, 124, 469, 470, 471, 472, 473, 474] (by decide +kernel) (by decide +kernel)) (goodIn_sub (fun _ h => List.mem_append_left _ (List.mem_append_right _ h)) (by decide +kernel))) (goodIn_sub (fun _ h => List.mem_append_right _ h) (by decide +kernel))
set_option maxRecDepth 20000 in
theorem gL_law_L_truss : GoodIn wsL_law (va_wsS RL 163 yL_truss wsL_truss) := goodIn_app (goodIn_of _ (by decide +kernel)) ggL_law_L_truss
set_option maxRecDepth 20000 in
theorem ggL_law_X1_truss : GoodIn wsL_law wsX1_truss := goodIn_r _ [453, 27, 419, 420, 421, 5, 422, 24, 137, 138, 139, 140, 44, 141, 142, 143, 45, 46, 47, 48, 49, 454, 455, 456, 457, 161, 162, 163, 475, 476, 477, 478, 479, 480, 481, 482, 483, 484] (by decide +kernel) (by decide +kernel)
set_option maxRecDepth 20000 in
theorem gL_law_X1_truss : GoodIn wsL_law (wsV RL 165 RX1 yX1_truss wsX1_truss) := goodIn_app (goodIn_of _ (by decide +kernel)) ggL_law_X1_truss
set_option maxRecDepth 20000 in
theorem ggL_law_L_trussSize : GoodIn wsL_law wsL_trussSize := goodIn_ca (goodIn_r _ [460, 58, 461, 462, 463, 2, 464, 67, 68, 17, 16, 438, 439, 440, 441, 14, 442, 443, 444, 445, 446, 447, 448, 449, 75, 76, 77, 78, 79, 80, 112, 113, 114, 115, 116, 117, 118, 119, 120, 121, 122, 123, 124, 469, 470, 471, 472, 473, 474] (by decide +kernel) (by decide +kernel)) (goodIn_sub (fun _ h => List.mem_append_left _ (List.mem_append_left _ (List.mem_append_right _ h))) (by decide +kernel))
set_option maxRecDepth 20000 in
theorem gL_law_L_trussSize : GoodIn wsL_law (va_wsS RL 166 yL_trussSize wsL_trussSize) := goodIn_app (goodIn_of _ (by decide +kernel)) ggL_law_L_trussSize
set_option maxRecDepth 20000 in
theorem ggL_law_X1_trussSize : GoodIn wsL_law wsX1_trussSize := goodIn_r _ [468, 44, 27, 45, 46, 47, 5, 48, 49, 454, 455, 456, 457, 24, 141, 142, 143, 161, 162, 163, 475, 476, 477, 478, 479, 480, 481, 482, 483, 484] (by decide +kernel) (by decide +kernel)
set_option maxRecDepth 20000 in
theorem gL_law_X1_trussSize : GoodIn wsL_law (wsV RL 168 RX1 yX1_trussSize wsX1_trussSize) := goodIn_app (goodIn_of _ (by decide +kernel)) ggL_law_X1_trussSize
