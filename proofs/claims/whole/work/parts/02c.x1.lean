theorem dX1_init_0 : decode cX1_init 0 = .ok (.aload_n 0, 1) := by decide +kernel
theorem dX1_init_1 : decode cX1_init 1 = .ok (.invokespecial 1, 3) := by decide +kernel
theorem dX1_init_4 : decode cX1_init 4 = .ok (.aload_n 0, 1) := by decide +kernel
theorem dX1_init_5 : decode cX1_init 5 = .ok (.bipush 20, 2) := by decide +kernel
theorem dX1_init_7 : decode cX1_init 7 = .ok (.newarray .int, 2) := by decide +kernel
theorem dX1_init_9 : decode cX1_init 9 = .ok (.putfield 7, 3) := by decide +kernel
theorem dX1_init_12 : decode cX1_init 12 = .ok (.aload_n 0, 1) := by decide +kernel
theorem dX1_init_13 : decode cX1_init 13 = .ok (.bipush 20, 2) := by decide +kernel
theorem dX1_init_15 : decode cX1_init 15 = .ok (.newarray .int, 2) := by decide +kernel
theorem dX1_init_17 : decode cX1_init 17 = .ok (.putfield 13, 3) := by decide +kernel
theorem dX1_init_20 : decode cX1_init 20 = .ok (.aload_n 0, 1) := by decide +kernel
theorem dX1_init_21 : decode cX1_init 21 = .ok (.bipush 20, 2) := by decide +kernel
theorem dX1_init_23 : decode cX1_init 23 = .ok (.newarray .int, 2) := by decide +kernel
theorem dX1_init_25 : decode cX1_init 25 = .ok (.putfield 16, 3) := by decide +kernel
theorem dX1_init_28 : decode cX1_init 28 = .ok (.aload_n 0, 1) := by decide +kernel
theorem dX1_init_29 : decode cX1_init 29 = .ok (.bipush 20, 2) := by decide +kernel
theorem dX1_init_31 : decode cX1_init 31 = .ok (.newarray .int, 2) := by decide +kernel
theorem dX1_init_33 : decode cX1_init 33 = .ok (.putfield 19, 3) := by decide +kernel
theorem dX1_init_36 : decode cX1_init 36 = .ok (.aload_n 0, 1) := by decide +kernel
theorem dX1_init_37 : decode cX1_init 37 = .ok (.bipush 20, 2) := by decide +kernel
theorem dX1_init_39 : decode cX1_init 39 = .ok (.newarray .int, 2) := by decide +kernel
theorem dX1_init_41 : decode cX1_init 41 = .ok (.putfield 22, 3) := by decide +kernel
theorem dX1_init_44 : decode cX1_init 44 = .ok (.return_, 1) := by decide +kernel
theorem dX1_thrown_0 : decode cX1_thrown 0 = .ok (.aload_n 0, 1) := by decide +kernel
theorem dX1_thrown_1 : decode cX1_thrown 1 = .ok (.getfield 25, 3) := by decide +kernel
theorem dX1_thrown_4 : decode cX1_thrown 4 = .ok (.ireturn, 1) := by decide +kernel
theorem dX1_goesWell_0 : decode cX1_goesWell 0 = .ok (.aload_n 0, 1) := by decide +kernel
theorem dX1_goesWell_1 : decode cX1_goesWell 1 = .ok (.iload_n 1, 1) := by decide +kernel
theorem dX1_goesWell_2 : decode cX1_goesWell 2 = .ok (.putfield 25, 3) := by decide +kernel
theorem dX1_goesWell_5 : decode cX1_goesWell 5 = .ok (.iload_n 1, 1) := by decide +kernel
theorem dX1_goesWell_6 : decode cX1_goesWell 6 = .ok (.ifCond .ne 7, 3) := by decide +kernel
theorem dX1_goesWell_9 : decode cX1_goesWell 9 = .ok (.iconst 1, 1) := by decide +kernel
theorem dX1_goesWell_10 : decode cX1_goesWell 10 = .ok (.goto 4, 3) := by decide +kernel
theorem dX1_goesWell_13 : decode cX1_goesWell 13 = .ok (.iconst 0, 1) := by decide +kernel
theorem dX1_goesWell_14 : decode cX1_goesWell 14 = .ok (.ireturn, 1) := by decide +kernel
theorem dX1_isNode_0 : decode cX1_isNode 0 = .ok (.iload_n 1, 1) := by decide +kernel
theorem dX1_isNode_1 : decode cX1_isNode 1 = .ok (.ifCond .lt 15, 3) := by decide +kernel
theorem dX1_isNode_4 : decode cX1_isNode 4 = .ok (.iload_n 1, 1) := by decide +kernel
theorem dX1_isNode_5 : decode cX1_isNode 5 = .ok (.aload_n 0, 1) := by decide +kernel
theorem dX1_isNode_6 : decode cX1_isNode 6 = .ok (.getfield 29, 3) := by decide +kernel
theorem dX1_isNode_9 : decode cX1_isNode 9 = .ok (.if_icmp .ge 7, 3) := by decide +kernel
theorem dX1_isNode_12 : decode cX1_isNode 12 = .ok (.iconst 1, 1) := by decide +kernel
theorem dX1_isNode_13 : decode cX1_isNode 13 = .ok (.goto 4, 3) := by decide +kernel
theorem dX1_isNode_16 : decode cX1_isNode 16 = .ok (.iconst 0, 1) := by decide +kernel
theorem dX1_isNode_17 : decode cX1_isNode 17 = .ok (.ireturn, 1) := by decide +kernel
theorem dX1_has_0 : decode cX1_has 0 = .ok (.iload_n 0, 1) := by decide +kernel
theorem dX1_has_1 : decode cX1_has 1 = .ok (.iload_n 1, 1) := by decide +kernel
theorem dX1_has_2 : decode cX1_has 2 = .ok (.ishr, 1) := by decide +kernel
theorem dX1_has_3 : decode cX1_has 3 = .ok (.iconst 1, 1) := by decide +kernel
theorem dX1_has_4 : decode cX1_has 4 = .ok (.iand, 1) := by decide +kernel
theorem dX1_has_5 : decode cX1_has 5 = .ok (.iconst 1, 1) := by decide +kernel
theorem dX1_has_6 : decode cX1_has 6 = .ok (.if_icmp .ne 7, 3) := by decide +kernel
theorem dX1_has_9 : decode cX1_has 9 = .ok (.iconst 1, 1) := by decide +kernel
theorem dX1_has_10 : decode cX1_has 10 = .ok (.goto 4, 3) := by decide +kernel
theorem dX1_has_13 : decode cX1_has 13 = .ok (.iconst 0, 1) := by decide +kernel
theorem dX1_has_14 : decode cX1_has 14 = .ok (.ireturn, 1) := by decide +kernel
theorem dX1_sizeOf_0 : decode cX1_sizeOf 0 = .ok (.iconst 0, 1) := by decide +kernel
theorem dX1_sizeOf_1 : decode cX1_sizeOf 1 = .ok (.istore_n 1, 1) := by decide +kernel
theorem dX1_sizeOf_2 : decode cX1_sizeOf 2 = .ok (.iconst 0, 1) := by decide +kernel
theorem dX1_sizeOf_3 : decode cX1_sizeOf 3 = .ok (.istore_n 2, 1) := by decide +kernel
theorem dX1_sizeOf_4 : decode cX1_sizeOf 4 = .ok (.iload_n 2, 1) := by decide +kernel
theorem dX1_sizeOf_5 : decode cX1_sizeOf 5 = .ok (.bipush 20, 2) := by decide +kernel
theorem dX1_sizeOf_7 : decode cX1_sizeOf 7 = .ok (.if_icmp .ge 17, 3) := by decide +kernel
theorem dX1_sizeOf_10 : decode cX1_sizeOf 10 = .ok (.iload_n 1, 1) := by decide +kernel
theorem dX1_sizeOf_11 : decode cX1_sizeOf 11 = .ok (.iload_n 0, 1) := by decide +kernel
theorem dX1_sizeOf_12 : decode cX1_sizeOf 12 = .ok (.iload_n 2, 1) := by decide +kernel
theorem dX1_sizeOf_13 : decode cX1_sizeOf 13 = .ok (.ishr, 1) := by decide +kernel
theorem dX1_sizeOf_14 : decode cX1_sizeOf 14 = .ok (.iconst 1, 1) := by decide +kernel
theorem dX1_sizeOf_15 : decode cX1_sizeOf 15 = .ok (.iand, 1) := by decide +kernel
theorem dX1_sizeOf_16 : decode cX1_sizeOf 16 = .ok (.iadd, 1) := by decide +kernel
theorem dX1_sizeOf_17 : decode cX1_sizeOf 17 = .ok (.istore_n 1, 1) := by decide +kernel
theorem dX1_sizeOf_18 : decode cX1_sizeOf 18 = .ok (.iinc 2 1, 3) := by decide +kernel
theorem dX1_sizeOf_21 : decode cX1_sizeOf 21 = .ok (.goto (-17), 3) := by decide +kernel
theorem dX1_sizeOf_24 : decode cX1_sizeOf 24 = .ok (.iload_n 1, 1) := by decide +kernel
theorem dX1_sizeOf_25 : decode cX1_sizeOf 25 = .ok (.ireturn, 1) := by decide +kernel
theorem dX1_all_0 : decode cX1_all 0 = .ok (.iconst 1, 1) := by decide +kernel
theorem dX1_all_1 : decode cX1_all 1 = .ok (.aload_n 0, 1) := by decide +kernel
theorem dX1_all_2 : decode cX1_all 2 = .ok (.getfield 29, 3) := by decide +kernel
theorem dX1_all_5 : decode cX1_all 5 = .ok (.ishl, 1) := by decide +kernel
theorem dX1_all_6 : decode cX1_all 6 = .ok (.iconst 1, 1) := by decide +kernel
theorem dX1_all_7 : decode cX1_all 7 = .ok (.isub, 1) := by decide +kernel
theorem dX1_all_8 : decode cX1_all 8 = .ok (.ireturn, 1) := by decide +kernel
set_option maxRecDepth 20000 in
theorem ggX1_coreOf_X1_all : GoodIn wsX1_coreOf wsX1_all := goodIn_r _ [7, 1, 14, 15, 16, 17, 18, 19, 20, 21, 22, 23] (by decide +kernel) (by decide +kernel)
set_option maxRecDepth 20000 in
theorem gX1_coreOf_X1_all : GoodIn wsX1_coreOf (wsV RX1 32 RX1 yX1_all wsX1_all) := goodIn_app (goodIn_of _ (by decide +kernel)) ggX1_coreOf_X1_all
set_option maxRecDepth 20000 in
theorem ggX1_coreOf_X1_has : GoodIn wsX1_coreOf wsX1_has := goodIn_r _ [10] (by decide +kernel) (by decide +kernel)
set_option maxRecDepth 20000 in
theorem gX1_coreOf_X1_has : GoodIn wsX1_coreOf (va_wsS RX1 36 yX1_has wsX1_has) := goodIn_app (goodIn_of _ (by decide +kernel)) ggX1_coreOf_X1_has
set_option maxRecDepth 20000 in
theorem ggX1_coreOf_X1_sizeOf : GoodIn wsX1_coreOf wsX1_sizeOf := goodIn_r _ [13] (by decide +kernel) (by decide +kernel)
set_option maxRecDepth 20000 in
theorem gX1_coreOf_X1_sizeOf : GoodIn wsX1_coreOf (va_wsS RX1 40 yX1_sizeOf wsX1_sizeOf) := goodIn_app (goodIn_of _ (by decide +kernel)) ggX1_coreOf_X1_sizeOf
theorem dX1_coreOf_0 : decode cX1_coreOf 0 = .ok (.aload_n 0, 1) := by decide +kernel
theorem dX1_coreOf_1 : decode cX1_coreOf 1 = .ok (.invokevirtual 32, 3) := by decide +kernel
theorem dX1_coreOf_4 : decode cX1_coreOf 4 = .ok (.istore_n 2, 1) := by decide +kernel
theorem dX1_coreOf_5 : decode cX1_coreOf 5 = .ok (.iconst 1, 1) := by decide +kernel
theorem dX1_coreOf_6 : decode cX1_coreOf 6 = .ok (.istore_n 3, 1) := by decide +kernel
theorem dX1_coreOf_7 : decode cX1_coreOf 7 = .ok (.iload_n 3, 1) := by decide +kernel
theorem dX1_coreOf_8 : decode cX1_coreOf 8 = .ok (.ifCond .eq 62, 3) := by decide +kernel
theorem dX1_coreOf_11 : decode cX1_coreOf 11 = .ok (.iconst 0, 1) := by decide +kernel
theorem dX1_coreOf_12 : decode cX1_coreOf 12 = .ok (.istore_n 3, 1) := by decide +kernel
theorem dX1_coreOf_13 : decode cX1_coreOf 13 = .ok (.iconst 0, 1) := by decide +kernel
theorem dX1_coreOf_14 : decode cX1_coreOf 14 = .ok (.istore 4, 2) := by decide +kernel
theorem dX1_coreOf_16 : decode cX1_coreOf 16 = .ok (.iload 4, 2) := by decide +kernel
theorem dX1_coreOf_18 : decode cX1_coreOf 18 = .ok (.aload_n 0, 1) := by decide +kernel
theorem dX1_coreOf_19 : decode cX1_coreOf 19 = .ok (.getfield 29, 3) := by decide +kernel
theorem dX1_coreOf_22 : decode cX1_coreOf 22 = .ok (.if_icmp .ge 45, 3) := by decide +kernel
theorem dX1_coreOf_25 : decode cX1_coreOf 25 = .ok (.iload_n 2, 1) := by decide +kernel
theorem dX1_coreOf_26 : decode cX1_coreOf 26 = .ok (.iload 4, 2) := by decide +kernel
theorem dX1_coreOf_28 : decode cX1_coreOf 28 = .ok (.invokestatic 36, 3) := by decide +kernel
theorem dX1_coreOf_31 : decode cX1_coreOf 31 = .ok (.ifCond .eq 30, 3) := by decide +kernel
theorem dX1_coreOf_34 : decode cX1_coreOf 34 = .ok (.aload_n 0, 1) := by decide +kernel
theorem dX1_coreOf_35 : decode cX1_coreOf 35 = .ok (.getfield 7, 3) := by decide +kernel
theorem dX1_coreOf_38 : decode cX1_coreOf 38 = .ok (.iload 4, 2) := by decide +kernel
theorem dX1_coreOf_40 : decode cX1_coreOf 40 = .ok (.iaload, 1) := by decide +kernel
theorem dX1_coreOf_41 : decode cX1_coreOf 41 = .ok (.iload_n 2, 1) := by decide +kernel
theorem dX1_coreOf_42 : decode cX1_coreOf 42 = .ok (.iand, 1) := by decide +kernel
theorem dX1_coreOf_43 : decode cX1_coreOf 43 = .ok (.invokestatic 40, 3) := by decide +kernel
theorem dX1_coreOf_46 : decode cX1_coreOf 46 = .ok (.iload_n 1, 1) := by decide +kernel
theorem dX1_coreOf_47 : decode cX1_coreOf 47 = .ok (.if_icmp .ge 14, 3) := by decide +kernel
theorem dX1_coreOf_50 : decode cX1_coreOf 50 = .ok (.iload_n 2, 1) := by decide +kernel
theorem dX1_coreOf_51 : decode cX1_coreOf 51 = .ok (.iconst 1, 1) := by decide +kernel
theorem dX1_coreOf_52 : decode cX1_coreOf 52 = .ok (.iload 4, 2) := by decide +kernel
theorem dX1_coreOf_54 : decode cX1_coreOf 54 = .ok (.ishl, 1) := by decide +kernel
theorem dX1_coreOf_55 : decode cX1_coreOf 55 = .ok (.iconst (-1), 1) := by decide +kernel
theorem dX1_coreOf_56 : decode cX1_coreOf 56 = .ok (.ixor, 1) := by decide +kernel
theorem dX1_coreOf_57 : decode cX1_coreOf 57 = .ok (.iand, 1) := by decide +kernel
theorem dX1_coreOf_58 : decode cX1_coreOf 58 = .ok (.istore_n 2, 1) := by decide +kernel
theorem dX1_coreOf_59 : decode cX1_coreOf 59 = .ok (.iconst 1, 1) := by decide +kernel
theorem dX1_coreOf_60 : decode cX1_coreOf 60 = .ok (.istore_n 3, 1) := by decide +kernel
theorem dX1_coreOf_61 : decode cX1_coreOf 61 = .ok (.iinc 4 1, 3) := by decide +kernel
theorem dX1_coreOf_64 : decode cX1_coreOf 64 = .ok (.goto (-48), 3) := by decide +kernel
theorem dX1_coreOf_67 : decode cX1_coreOf 67 = .ok (.goto (-60), 3) := by decide +kernel
theorem dX1_coreOf_70 : decode cX1_coreOf 70 = .ok (.iload_n 2, 1) := by decide +kernel
theorem dX1_coreOf_71 : decode cX1_coreOf 71 = .ok (.ireturn, 1) := by decide +kernel
set_option maxRecDepth 20000 in
theorem ggX1_layCores_X1_coreOf : GoodIn wsX1_layCores wsX1_coreOf := goodIn_r _ [7, 1, 8, 9, 10, 11, 6, 12, 13, 14, 15, 16, 17, 18, 19, 20, 21, 22, 23, 24, 25, 26, 27, 28] (by decide +kernel) (by decide +kernel)
set_option maxRecDepth 20000 in
theorem gX1_layCores_X1_coreOf : GoodIn wsX1_layCores (wsV RX1 44 RX1 yX1_coreOf wsX1_coreOf) := goodIn_app (goodIn_of _ (by decide +kernel)) ggX1_layCores_X1_coreOf
set_option maxRecDepth 20000 in
theorem ggX1_layCores_X1_has : GoodIn wsX1_layCores wsX1_has := goodIn_r _ [15] (by decide +kernel) (by decide +kernel)
set_option maxRecDepth 20000 in
theorem gX1_layCores_X1_has : GoodIn wsX1_layCores (va_wsS RX1 36 yX1_has wsX1_has) := goodIn_app (goodIn_of _ (by decide +kernel)) ggX1_layCores_X1_has
theorem dX1_layCores_0 : decode cX1_layCores 0 = .ok (.iconst 0, 1) := by decide +kernel
theorem dX1_layCores_1 : decode cX1_layCores 1 = .ok (.istore_n 1, 1) := by decide +kernel
theorem dX1_layCores_2 : decode cX1_layCores 2 = .ok (.iload_n 1, 1) := by decide +kernel
theorem dX1_layCores_3 : decode cX1_layCores 3 = .ok (.bipush 20, 2) := by decide +kernel
theorem dX1_layCores_5 : decode cX1_layCores 5 = .ok (.if_icmp .ge 55, 3) := by decide +kernel
theorem dX1_layCores_8 : decode cX1_layCores 8 = .ok (.aload_n 0, 1) := by decide +kernel
theorem dX1_layCores_9 : decode cX1_layCores 9 = .ok (.iload_n 1, 1) := by decide +kernel
theorem dX1_layCores_10 : decode cX1_layCores 10 = .ok (.invokevirtual 44, 3) := by decide +kernel
theorem dX1_layCores_13 : decode cX1_layCores 13 = .ok (.istore_n 2, 1) := by decide +kernel
theorem dX1_layCores_14 : decode cX1_layCores 14 = .ok (.iconst 0, 1) := by decide +kernel
theorem dX1_layCores_15 : decode cX1_layCores 15 = .ok (.istore_n 3, 1) := by decide +kernel
theorem dX1_layCores_16 : decode cX1_layCores 16 = .ok (.iload_n 3, 1) := by decide +kernel
theorem dX1_layCores_17 : decode cX1_layCores 17 = .ok (.aload_n 0, 1) := by decide +kernel
theorem dX1_layCores_18 : decode cX1_layCores 18 = .ok (.getfield 29, 3) := by decide +kernel
theorem dX1_layCores_21 : decode cX1_layCores 21 = .ok (.if_icmp .ge 33, 3) := by decide +kernel
theorem dX1_layCores_24 : decode cX1_layCores 24 = .ok (.aload_n 0, 1) := by decide +kernel
theorem dX1_layCores_25 : decode cX1_layCores 25 = .ok (.getfield 13, 3) := by decide +kernel
theorem dX1_layCores_28 : decode cX1_layCores 28 = .ok (.iload_n 3, 1) := by decide +kernel
theorem dX1_layCores_29 : decode cX1_layCores 29 = .ok (.iload_n 2, 1) := by decide +kernel
theorem dX1_layCores_30 : decode cX1_layCores 30 = .ok (.iload_n 3, 1) := by decide +kernel
theorem dX1_layCores_31 : decode cX1_layCores 31 = .ok (.invokestatic 36, 3) := by decide +kernel
theorem dX1_layCores_34 : decode cX1_layCores 34 = .ok (.ifCond .eq 7, 3) := by decide +kernel
theorem dX1_layCores_37 : decode cX1_layCores 37 = .ok (.iload_n 1, 1) := by decide +kernel
theorem dX1_layCores_38 : decode cX1_layCores 38 = .ok (.goto 9, 3) := by decide +kernel
theorem dX1_layCores_41 : decode cX1_layCores 41 = .ok (.aload_n 0, 1) := by decide +kernel
theorem dX1_layCores_42 : decode cX1_layCores 42 = .ok (.getfield 13, 3) := by decide +kernel
theorem dX1_layCores_45 : decode cX1_layCores 45 = .ok (.iload_n 3, 1) := by decide +kernel
theorem dX1_layCores_46 : decode cX1_layCores 46 = .ok (.iaload, 1) := by decide +kernel
theorem dX1_layCores_47 : decode cX1_layCores 47 = .ok (.iastore, 1) := by decide +kernel
theorem dX1_layCores_48 : decode cX1_layCores 48 = .ok (.iinc 3 1, 3) := by decide +kernel
theorem dX1_layCores_51 : decode cX1_layCores 51 = .ok (.goto (-35), 3) := by decide +kernel
theorem dX1_layCores_54 : decode cX1_layCores 54 = .ok (.iinc 1 1, 3) := by decide +kernel
theorem dX1_layCores_57 : decode cX1_layCores 57 = .ok (.goto (-55), 3) := by decide +kernel
theorem dX1_layCores_60 : decode cX1_layCores 60 = .ok (.return_, 1) := by decide +kernel
set_option maxRecDepth 20000 in
theorem ggX1_addNode_X1_goesWell : GoodIn wsX1_addNode wsX1_goesWell := goodIn_r _ [7, 8, 9, 10, 11, 12, 13, 14, 15, 16, 17, 18] (by decide +kernel) (by decide +kernel)
set_option maxRecDepth 20000 in
theorem gX1_addNode_X1_goesWell : GoodIn wsX1_addNode (wsV RX1 47 RX1 yX1_goesWell wsX1_goesWell) := goodIn_app (goodIn_of _ (by decide +kernel)) ggX1_addNode_X1_goesWell
theorem dX1_addNode_0 : decode cX1_addNode 0 = .ok (.aload_n 0, 1) := by decide +kernel
theorem dX1_addNode_1 : decode cX1_addNode 1 = .ok (.aload_n 0, 1) := by decide +kernel
theorem dX1_addNode_2 : decode cX1_addNode 2 = .ok (.getfield 29, 3) := by decide +kernel
theorem dX1_addNode_5 : decode cX1_addNode 5 = .ok (.bipush 20, 2) := by decide +kernel
theorem dX1_addNode_7 : decode cX1_addNode 7 = .ok (.if_icmp .ne 7, 3) := by decide +kernel
theorem dX1_addNode_10 : decode cX1_addNode 10 = .ok (.iconst 1, 1) := by decide +kernel
theorem dX1_addNode_11 : decode cX1_addNode 11 = .ok (.goto 4, 3) := by decide +kernel
theorem dX1_addNode_14 : decode cX1_addNode 14 = .ok (.iconst 0, 1) := by decide +kernel
theorem dX1_addNode_15 : decode cX1_addNode 15 = .ok (.invokevirtual 47, 3) := by decide +kernel
theorem dX1_addNode_18 : decode cX1_addNode 18 = .ok (.ifCond .ne 5, 3) := by decide +kernel
theorem dX1_addNode_21 : decode cX1_addNode 21 = .ok (.iconst 0, 1) := by decide +kernel
theorem dX1_addNode_22 : decode cX1_addNode 22 = .ok (.ireturn, 1) := by decide +kernel
theorem dX1_addNode_23 : decode cX1_addNode 23 = .ok (.aload_n 0, 1) := by decide +kernel
theorem dX1_addNode_24 : decode cX1_addNode 24 = .ok (.getfield 7, 3) := by decide +kernel
theorem dX1_addNode_27 : decode cX1_addNode 27 = .ok (.aload_n 0, 1) := by decide +kernel
theorem dX1_addNode_28 : decode cX1_addNode 28 = .ok (.getfield 29, 3) := by decide +kernel
theorem dX1_addNode_31 : decode cX1_addNode 31 = .ok (.iconst 0, 1) := by decide +kernel
theorem dX1_addNode_32 : decode cX1_addNode 32 = .ok (.iastore, 1) := by decide +kernel
theorem dX1_addNode_33 : decode cX1_addNode 33 = .ok (.aload_n 0, 1) := by decide +kernel
theorem dX1_addNode_34 : decode cX1_addNode 34 = .ok (.dup, 1) := by decide +kernel
theorem dX1_addNode_35 : decode cX1_addNode 35 = .ok (.getfield 29, 3) := by decide +kernel
theorem dX1_addNode_38 : decode cX1_addNode 38 = .ok (.iconst 1, 1) := by decide +kernel
theorem dX1_addNode_39 : decode cX1_addNode 39 = .ok (.iadd, 1) := by decide +kernel
theorem dX1_addNode_40 : decode cX1_addNode 40 = .ok (.putfield 29, 3) := by decide +kernel
theorem dX1_addNode_43 : decode cX1_addNode 43 = .ok (.aload_n 0, 1) := by decide +kernel
theorem dX1_addNode_44 : decode cX1_addNode 44 = .ok (.getfield 29, 3) := by decide +kernel
theorem dX1_addNode_47 : decode cX1_addNode 47 = .ok (.iconst 1, 1) := by decide +kernel
theorem dX1_addNode_48 : decode cX1_addNode 48 = .ok (.isub, 1) := by decide +kernel
theorem dX1_addNode_49 : decode cX1_addNode 49 = .ok (.ireturn, 1) := by decide +kernel
set_option maxRecDepth 20000 in
theorem ggX1_turn_X1_layCores : GoodIn wsX1_turn wsX1_layCores := goodIn_r _ [10, 1, 3, 11, 12, 13, 9, 14, 4, 15, 16, 17, 18, 19, 20, 21, 22, 23, 24, 25, 26, 27, 28, 29, 30, 31, 32, 33, 34] (by decide +kernel) (by decide +kernel)
set_option maxRecDepth 20000 in
theorem gX1_turn_X1_layCores : GoodIn wsX1_turn (wsV RX1 51 RX1 yX1_layCores wsX1_layCores) := goodIn_app (goodIn_of _ (by decide +kernel)) ggX1_turn_X1_layCores
theorem dX1_turn_0 : decode cX1_turn 0 = .ok (.aload_n 0, 1) := by decide +kernel
theorem dX1_turn_1 : decode cX1_turn 1 = .ok (.invokevirtual 51, 3) := by decide +kernel
theorem dX1_turn_4 : decode cX1_turn 4 = .ok (.iconst 0, 1) := by decide +kernel
theorem dX1_turn_5 : decode cX1_turn 5 = .ok (.istore_n 3, 1) := by decide +kernel
theorem dX1_turn_6 : decode cX1_turn 6 = .ok (.iload_n 3, 1) := by decide +kernel
theorem dX1_turn_7 : decode cX1_turn 7 = .ok (.aload_n 0, 1) := by decide +kernel
theorem dX1_turn_8 : decode cX1_turn 8 = .ok (.getfield 29, 3) := by decide +kernel
theorem dX1_turn_11 : decode cX1_turn 11 = .ok (.if_icmp .ge 21, 3) := by decide +kernel
theorem dX1_turn_14 : decode cX1_turn 14 = .ok (.aload_n 0, 1) := by decide +kernel
theorem dX1_turn_15 : decode cX1_turn 15 = .ok (.getfield 16, 3) := by decide +kernel
theorem dX1_turn_18 : decode cX1_turn 18 = .ok (.iload_n 3, 1) := by decide +kernel
theorem dX1_turn_19 : decode cX1_turn 19 = .ok (.aload_n 0, 1) := by decide +kernel
theorem dX1_turn_20 : decode cX1_turn 20 = .ok (.getfield 13, 3) := by decide +kernel
theorem dX1_turn_23 : decode cX1_turn 23 = .ok (.iload_n 3, 1) := by decide +kernel
theorem dX1_turn_24 : decode cX1_turn 24 = .ok (.iaload, 1) := by decide +kernel
theorem dX1_turn_25 : decode cX1_turn 25 = .ok (.iastore, 1) := by decide +kernel
theorem dX1_turn_26 : decode cX1_turn 26 = .ok (.iinc 3 1, 3) := by decide +kernel
theorem dX1_turn_29 : decode cX1_turn 29 = .ok (.goto (-23), 3) := by decide +kernel
theorem dX1_turn_32 : decode cX1_turn 32 = .ok (.aload_n 0, 1) := by decide +kernel
theorem dX1_turn_33 : decode cX1_turn 33 = .ok (.getfield 7, 3) := by decide +kernel
theorem dX1_turn_36 : decode cX1_turn 36 = .ok (.iload_n 1, 1) := by decide +kernel
theorem dX1_turn_37 : decode cX1_turn 37 = .ok (.dup2, 1) := by decide +kernel
theorem dX1_turn_38 : decode cX1_turn 38 = .ok (.iaload, 1) := by decide +kernel
theorem dX1_turn_39 : decode cX1_turn 39 = .ok (.iconst 1, 1) := by decide +kernel
theorem dX1_turn_40 : decode cX1_turn 40 = .ok (.iload_n 2, 1) := by decide +kernel
theorem dX1_turn_41 : decode cX1_turn 41 = .ok (.ishl, 1) := by decide +kernel
theorem dX1_turn_42 : decode cX1_turn 42 = .ok (.ixor, 1) := by decide +kernel
theorem dX1_turn_43 : decode cX1_turn 43 = .ok (.iastore, 1) := by decide +kernel
theorem dX1_turn_44 : decode cX1_turn 44 = .ok (.aload_n 0, 1) := by decide +kernel
theorem dX1_turn_45 : decode cX1_turn 45 = .ok (.getfield 7, 3) := by decide +kernel
theorem dX1_turn_48 : decode cX1_turn 48 = .ok (.iload_n 2, 1) := by decide +kernel
theorem dX1_turn_49 : decode cX1_turn 49 = .ok (.dup2, 1) := by decide +kernel
theorem dX1_turn_50 : decode cX1_turn 50 = .ok (.iaload, 1) := by decide +kernel
theorem dX1_turn_51 : decode cX1_turn 51 = .ok (.iconst 1, 1) := by decide +kernel
theorem dX1_turn_52 : decode cX1_turn 52 = .ok (.iload_n 1, 1) := by decide +kernel
theorem dX1_turn_53 : decode cX1_turn 53 = .ok (.ishl, 1) := by decide +kernel
theorem dX1_turn_54 : decode cX1_turn 54 = .ok (.ixor, 1) := by decide +kernel
theorem dX1_turn_55 : decode cX1_turn 55 = .ok (.iastore, 1) := by decide +kernel
theorem dX1_turn_56 : decode cX1_turn 56 = .ok (.aload_n 0, 1) := by decide +kernel
theorem dX1_turn_57 : decode cX1_turn 57 = .ok (.invokevirtual 51, 3) := by decide +kernel
theorem dX1_turn_60 : decode cX1_turn 60 = .ok (.iconst 0, 1) := by decide +kernel
theorem dX1_turn_61 : decode cX1_turn 61 = .ok (.istore_n 3, 1) := by decide +kernel
theorem dX1_turn_62 : decode cX1_turn 62 = .ok (.iconst 0, 1) := by decide +kernel
theorem dX1_turn_63 : decode cX1_turn 63 = .ok (.istore 4, 2) := by decide +kernel
theorem dX1_turn_65 : decode cX1_turn 65 = .ok (.iload 4, 2) := by decide +kernel
theorem dX1_turn_67 : decode cX1_turn 67 = .ok (.aload_n 0, 1) := by decide +kernel
theorem dX1_turn_68 : decode cX1_turn 68 = .ok (.getfield 29, 3) := by decide +kernel
theorem dX1_turn_71 : decode cX1_turn 71 = .ok (.if_icmp .ge 34, 3) := by decide +kernel
theorem dX1_turn_74 : decode cX1_turn 74 = .ok (.iload_n 3, 1) := by decide +kernel
theorem dX1_turn_75 : decode cX1_turn 75 = .ok (.aload_n 0, 1) := by decide +kernel
theorem dX1_turn_76 : decode cX1_turn 76 = .ok (.getfield 16, 3) := by decide +kernel
theorem dX1_turn_79 : decode cX1_turn 79 = .ok (.iload 4, 2) := by decide +kernel
theorem dX1_turn_81 : decode cX1_turn 81 = .ok (.iaload, 1) := by decide +kernel
theorem dX1_turn_82 : decode cX1_turn 82 = .ok (.aload_n 0, 1) := by decide +kernel
theorem dX1_turn_83 : decode cX1_turn 83 = .ok (.getfield 13, 3) := by decide +kernel
theorem dX1_turn_86 : decode cX1_turn 86 = .ok (.iload 4, 2) := by decide +kernel
theorem dX1_turn_88 : decode cX1_turn 88 = .ok (.iaload, 1) := by decide +kernel
theorem dX1_turn_89 : decode cX1_turn 89 = .ok (.if_icmp .ne 7, 3) := by decide +kernel
theorem dX1_turn_92 : decode cX1_turn 92 = .ok (.iconst 0, 1) := by decide +kernel
theorem dX1_turn_93 : decode cX1_turn 93 = .ok (.goto 4, 3) := by decide +kernel
theorem dX1_turn_96 : decode cX1_turn 96 = .ok (.iconst 1, 1) := by decide +kernel
theorem dX1_turn_97 : decode cX1_turn 97 = .ok (.iadd, 1) := by decide +kernel
theorem dX1_turn_98 : decode cX1_turn 98 = .ok (.istore_n 3, 1) := by decide +kernel
theorem dX1_turn_99 : decode cX1_turn 99 = .ok (.iinc 4 1, 3) := by decide +kernel
theorem dX1_turn_102 : decode cX1_turn 102 = .ok (.goto (-37), 3) := by decide +kernel
theorem dX1_turn_105 : decode cX1_turn 105 = .ok (.aload_n 0, 1) := by decide +kernel
theorem dX1_turn_106 : decode cX1_turn 106 = .ok (.dup, 1) := by decide +kernel
theorem dX1_turn_107 : decode cX1_turn 107 = .ok (.getfield 54, 3) := by decide +kernel
theorem dX1_turn_110 : decode cX1_turn 110 = .ok (.iload_n 3, 1) := by decide +kernel
theorem dX1_turn_111 : decode cX1_turn 111 = .ok (.iadd, 1) := by decide +kernel
theorem dX1_turn_112 : decode cX1_turn 112 = .ok (.putfield 54, 3) := by decide +kernel
theorem dX1_turn_115 : decode cX1_turn 115 = .ok (.iload_n 3, 1) := by decide +kernel
theorem dX1_turn_116 : decode cX1_turn 116 = .ok (.ireturn, 1) := by decide +kernel
set_option maxRecDepth 20000 in
theorem ggX1_faultOf_X1_isNode : GoodIn wsX1_faultOf wsX1_isNode := goodIn_r _ [5, 6, 7, 8, 9, 10, 11, 12, 13, 14, 15, 16] (by decide +kernel) (by decide +kernel)
set_option maxRecDepth 20000 in
theorem gX1_faultOf_X1_isNode : GoodIn wsX1_faultOf (wsV RX1 57 RX1 yX1_isNode wsX1_isNode) := goodIn_app (goodIn_of _ (by decide +kernel)) ggX1_faultOf_X1_isNode
theorem dX1_faultOf_0 : decode cX1_faultOf 0 = .ok (.aload_n 0, 1) := by decide +kernel
theorem dX1_faultOf_1 : decode cX1_faultOf 1 = .ok (.iload_n 1, 1) := by decide +kernel
theorem dX1_faultOf_2 : decode cX1_faultOf 2 = .ok (.invokevirtual 57, 3) := by decide +kernel
theorem dX1_faultOf_5 : decode cX1_faultOf 5 = .ok (.ifCond .eq 11, 3) := by decide +kernel
theorem dX1_faultOf_8 : decode cX1_faultOf 8 = .ok (.aload_n 0, 1) := by decide +kernel
theorem dX1_faultOf_9 : decode cX1_faultOf 9 = .ok (.iload_n 2, 1) := by decide +kernel
theorem dX1_faultOf_10 : decode cX1_faultOf 10 = .ok (.invokevirtual 57, 3) := by decide +kernel
theorem dX1_faultOf_13 : decode cX1_faultOf 13 = .ok (.ifCond .ne 7, 3) := by decide +kernel
theorem dX1_faultOf_16 : decode cX1_faultOf 16 = .ok (.iconst 1, 1) := by decide +kernel
theorem dX1_faultOf_17 : decode cX1_faultOf 17 = .ok (.goto 13, 3) := by decide +kernel
theorem dX1_faultOf_20 : decode cX1_faultOf 20 = .ok (.iload_n 1, 1) := by decide +kernel
theorem dX1_faultOf_21 : decode cX1_faultOf 21 = .ok (.iload_n 2, 1) := by decide +kernel
theorem dX1_faultOf_22 : decode cX1_faultOf 22 = .ok (.if_icmp .ne 7, 3) := by decide +kernel
theorem dX1_faultOf_25 : decode cX1_faultOf 25 = .ok (.iconst 2, 1) := by decide +kernel
theorem dX1_faultOf_26 : decode cX1_faultOf 26 = .ok (.goto 4, 3) := by decide +kernel
theorem dX1_faultOf_29 : decode cX1_faultOf 29 = .ok (.iconst 0, 1) := by decide +kernel
theorem dX1_faultOf_30 : decode cX1_faultOf 30 = .ok (.ireturn, 1) := by decide +kernel
set_option maxRecDepth 20000 in
theorem ggX1_join_X1_faultOf : GoodIn wsX1_join wsX1_faultOf := goodIn_r _ [6, 7, 8, 9, 5, 10, 11, 42, 43, 44, 45, 46, 47, 48, 49, 50, 51] (by decide +kernel) (by decide +kernel)
set_option maxRecDepth 20000 in
theorem gX1_join_X1_faultOf : GoodIn wsX1_join (wsV RX1 60 RX1 yX1_faultOf wsX1_faultOf) := goodIn_app (goodIn_of _ (by decide +kernel)) ggX1_join_X1_faultOf
set_option maxRecDepth 20000 in
theorem ggX1_join_X1_has : GoodIn wsX1_join wsX1_has := goodIn_r _ [14] (by decide +kernel) (by decide +kernel)
set_option maxRecDepth 20000 in
theorem gX1_join_X1_has : GoodIn wsX1_join (va_wsS RX1 36 yX1_has wsX1_has) := goodIn_app (goodIn_of _ (by decide +kernel)) ggX1_join_X1_has
set_option maxRecDepth 20000 in
theorem ggX1_join_X1_goesWell : GoodIn wsX1_join wsX1_goesWell := goodIn_r _ [18, 19, 42, 43, 44, 45, 46, 47, 48, 49, 50, 51] (by decide +kernel) (by decide +kernel)
set_option maxRecDepth 20000 in
theorem gX1_join_X1_goesWell : GoodIn wsX1_join (wsV RX1 47 RX1 yX1_goesWell wsX1_goesWell) := goodIn_app (goodIn_of _ (by decide +kernel)) ggX1_join_X1_goesWell
set_option maxRecDepth 20000 in
theorem ggX1_join_X1_turn : GoodIn wsX1_join wsX1_turn := goodIn_r _ [23, 11, 24, 25, 1, 26, 27, 28, 29, 5, 30, 31, 32, 33, 34, 35, 36, 37, 38, 12, 13, 14, 39, 40, 41, 42, 43, 44, 45, 46, 47, 48, 49, 50, 51] (by decide +kernel) (by decide +kernel)
set_option maxRecDepth 20000 in
theorem gX1_join_X1_turn : GoodIn wsX1_join (wsV RX1 64 RX1 yX1_turn wsX1_turn) := goodIn_app (goodIn_of _ (by decide +kernel)) ggX1_join_X1_turn
theorem dX1_join_0 : decode cX1_join 0 = .ok (.aload_n 0, 1) := by decide +kernel
theorem dX1_join_1 : decode cX1_join 1 = .ok (.iload_n 1, 1) := by decide +kernel
theorem dX1_join_2 : decode cX1_join 2 = .ok (.iload_n 2, 1) := by decide +kernel
theorem dX1_join_3 : decode cX1_join 3 = .ok (.invokevirtual 60, 3) := by decide +kernel
theorem dX1_join_6 : decode cX1_join 6 = .ok (.istore_n 3, 1) := by decide +kernel
theorem dX1_join_7 : decode cX1_join 7 = .ok (.aload_n 0, 1) := by decide +kernel
theorem dX1_join_8 : decode cX1_join 8 = .ok (.iload_n 3, 1) := by decide +kernel
theorem dX1_join_9 : decode cX1_join 9 = .ok (.ifCond .le 7, 3) := by decide +kernel
theorem dX1_join_12 : decode cX1_join 12 = .ok (.iload_n 3, 1) := by decide +kernel
theorem dX1_join_13 : decode cX1_join 13 = .ok (.goto 21, 3) := by decide +kernel
theorem dX1_join_16 : decode cX1_join 16 = .ok (.aload_n 0, 1) := by decide +kernel
theorem dX1_join_17 : decode cX1_join 17 = .ok (.getfield 7, 3) := by decide +kernel
theorem dX1_join_20 : decode cX1_join 20 = .ok (.iload_n 1, 1) := by decide +kernel
theorem dX1_join_21 : decode cX1_join 21 = .ok (.iaload, 1) := by decide +kernel
theorem dX1_join_22 : decode cX1_join 22 = .ok (.iload_n 2, 1) := by decide +kernel
theorem dX1_join_23 : decode cX1_join 23 = .ok (.invokestatic 36, 3) := by decide +kernel
theorem dX1_join_26 : decode cX1_join 26 = .ok (.ifCond .eq 7, 3) := by decide +kernel
theorem dX1_join_29 : decode cX1_join 29 = .ok (.iconst 3, 1) := by decide +kernel
theorem dX1_join_30 : decode cX1_join 30 = .ok (.goto 4, 3) := by decide +kernel
theorem dX1_join_33 : decode cX1_join 33 = .ok (.iconst 0, 1) := by decide +kernel
theorem dX1_join_34 : decode cX1_join 34 = .ok (.invokevirtual 47, 3) := by decide +kernel
theorem dX1_join_37 : decode cX1_join 37 = .ok (.ifCond .eq 12, 3) := by decide +kernel
theorem dX1_join_40 : decode cX1_join 40 = .ok (.aload_n 0, 1) := by decide +kernel
theorem dX1_join_41 : decode cX1_join 41 = .ok (.iload_n 1, 1) := by decide +kernel
theorem dX1_join_42 : decode cX1_join 42 = .ok (.iload_n 2, 1) := by decide +kernel
theorem dX1_join_43 : decode cX1_join 43 = .ok (.invokevirtual 64, 3) := by decide +kernel
theorem dX1_join_46 : decode cX1_join 46 = .ok (.goto 4, 3) := by decide +kernel
theorem dX1_join_49 : decode cX1_join 49 = .ok (.iconst 0, 1) := by decide +kernel
theorem dX1_join_50 : decode cX1_join 50 = .ok (.ireturn, 1) := by decide +kernel
set_option maxRecDepth 20000 in
theorem ggX1_part_X1_faultOf : GoodIn wsX1_part wsX1_faultOf := goodIn_r _ [6, 7, 8, 9, 5, 10, 11, 42, 43, 44, 45, 46, 47, 48, 49, 50, 51] (by decide +kernel) (by decide +kernel)
set_option maxRecDepth 20000 in
theorem gX1_part_X1_faultOf : GoodIn wsX1_part (wsV RX1 60 RX1 yX1_faultOf wsX1_faultOf) := goodIn_app (goodIn_of _ (by decide +kernel)) ggX1_part_X1_faultOf
set_option maxRecDepth 20000 in
theorem ggX1_part_X1_has : GoodIn wsX1_part wsX1_has := goodIn_r _ [14] (by decide +kernel) (by decide +kernel)
set_option maxRecDepth 20000 in
theorem gX1_part_X1_has : GoodIn wsX1_part (va_wsS RX1 36 yX1_has wsX1_has) := goodIn_app (goodIn_of _ (by decide +kernel)) ggX1_part_X1_has
set_option maxRecDepth 20000 in
theorem ggX1_part_X1_goesWell : GoodIn wsX1_part wsX1_goesWell := goodIn_r _ [18, 19, 42, 43, 44, 45, 46, 47, 48, 49, 50, 51] (by decide +kernel) (by decide +kernel)
set_option maxRecDepth 20000 in
theorem gX1_part_X1_goesWell : GoodIn wsX1_part (wsV RX1 47 RX1 yX1_goesWell wsX1_goesWell) := goodIn_app (goodIn_of _ (by decide +kernel)) ggX1_part_X1_goesWell
set_option maxRecDepth 20000 in
theorem ggX1_part_X1_turn : GoodIn wsX1_part wsX1_turn := goodIn_r _ [23, 11, 24, 25, 1, 26, 27, 28, 29, 5, 30, 31, 32, 33, 34, 35, 36, 37, 38, 12, 13, 14, 39, 40, 41, 42, 43, 44, 45, 46, 47, 48, 49, 50, 51] (by decide +kernel) (by decide +kernel)
set_option maxRecDepth 20000 in
theorem gX1_part_X1_turn : GoodIn wsX1_part (wsV RX1 64 RX1 yX1_turn wsX1_turn) := goodIn_app (goodIn_of _ (by decide +kernel)) ggX1_part_X1_turn
theorem dX1_part_0 : decode cX1_part 0 = .ok (.aload_n 0, 1) := by decide +kernel
theorem dX1_part_1 : decode cX1_part 1 = .ok (.iload_n 1, 1) := by decide +kernel
theorem dX1_part_2 : decode cX1_part 2 = .ok (.iload_n 2, 1) := by decide +kernel
theorem dX1_part_3 : decode cX1_part 3 = .ok (.invokevirtual 60, 3) := by decide +kernel
theorem dX1_part_6 : decode cX1_part 6 = .ok (.istore_n 3, 1) := by decide +kernel
theorem dX1_part_7 : decode cX1_part 7 = .ok (.aload_n 0, 1) := by decide +kernel
theorem dX1_part_8 : decode cX1_part 8 = .ok (.iload_n 3, 1) := by decide +kernel
theorem dX1_part_9 : decode cX1_part 9 = .ok (.ifCond .le 7, 3) := by decide +kernel
theorem dX1_part_12 : decode cX1_part 12 = .ok (.iload_n 3, 1) := by decide +kernel
theorem dX1_part_13 : decode cX1_part 13 = .ok (.goto 21, 3) := by decide +kernel
theorem dX1_part_16 : decode cX1_part 16 = .ok (.aload_n 0, 1) := by decide +kernel
theorem dX1_part_17 : decode cX1_part 17 = .ok (.getfield 7, 3) := by decide +kernel
theorem dX1_part_20 : decode cX1_part 20 = .ok (.iload_n 1, 1) := by decide +kernel
theorem dX1_part_21 : decode cX1_part 21 = .ok (.iaload, 1) := by decide +kernel
theorem dX1_part_22 : decode cX1_part 22 = .ok (.iload_n 2, 1) := by decide +kernel
theorem dX1_part_23 : decode cX1_part 23 = .ok (.invokestatic 36, 3) := by decide +kernel
theorem dX1_part_26 : decode cX1_part 26 = .ok (.ifCond .eq 7, 3) := by decide +kernel
theorem dX1_part_29 : decode cX1_part 29 = .ok (.iconst 0, 1) := by decide +kernel
theorem dX1_part_30 : decode cX1_part 30 = .ok (.goto 4, 3) := by decide +kernel
theorem dX1_part_33 : decode cX1_part 33 = .ok (.iconst 3, 1) := by decide +kernel
theorem dX1_part_34 : decode cX1_part 34 = .ok (.invokevirtual 47, 3) := by decide +kernel
theorem dX1_part_37 : decode cX1_part 37 = .ok (.ifCond .eq 12, 3) := by decide +kernel
theorem dX1_part_40 : decode cX1_part 40 = .ok (.aload_n 0, 1) := by decide +kernel
theorem dX1_part_41 : decode cX1_part 41 = .ok (.iload_n 1, 1) := by decide +kernel
theorem dX1_part_42 : decode cX1_part 42 = .ok (.iload_n 2, 1) := by decide +kernel
theorem dX1_part_43 : decode cX1_part 43 = .ok (.invokevirtual 64, 3) := by decide +kernel
theorem dX1_part_46 : decode cX1_part 46 = .ok (.goto 4, 3) := by decide +kernel
theorem dX1_part_49 : decode cX1_part 49 = .ok (.iconst 0, 1) := by decide +kernel
theorem dX1_part_50 : decode cX1_part 50 = .ok (.ireturn, 1) := by decide +kernel
set_option maxRecDepth 20000 in
theorem ggX1_isolate_X1_isNode : GoodIn wsX1_isolate wsX1_isNode := goodIn_r _ [7, 1, 38, 39, 40, 41, 42, 43, 44, 45, 46, 47] (by decide +kernel) (by decide +kernel)
set_option maxRecDepth 20000 in
theorem gX1_isolate_X1_isNode : GoodIn wsX1_isolate (wsV RX1 57 RX1 yX1_isNode wsX1_isNode) := goodIn_app (goodIn_of _ (by decide +kernel)) ggX1_isolate_X1_isNode
set_option maxRecDepth 20000 in
theorem ggX1_isolate_X1_goesWell : GoodIn wsX1_isolate wsX1_goesWell := goodIn_r _ [11, 12, 38, 39, 40, 41, 42, 43, 44, 45, 46, 47] (by decide +kernel) (by decide +kernel)
set_option maxRecDepth 20000 in
theorem gX1_isolate_X1_goesWell : GoodIn wsX1_isolate (wsV RX1 47 RX1 yX1_goesWell wsX1_goesWell) := goodIn_app (goodIn_of _ (by decide +kernel)) ggX1_isolate_X1_goesWell
set_option maxRecDepth 20000 in
theorem ggX1_isolate_X1_has : GoodIn wsX1_isolate wsX1_has := goodIn_r _ [15] (by decide +kernel) (by decide +kernel)
set_option maxRecDepth 20000 in
theorem gX1_isolate_X1_has : GoodIn wsX1_isolate (va_wsS RX1 36 yX1_has wsX1_has) := goodIn_app (goodIn_of _ (by decide +kernel)) ggX1_isolate_X1_has
set_option maxRecDepth 20000 in
theorem ggX1_isolate_X1_turn : GoodIn wsX1_isolate wsX1_turn := goodIn_r _ [19, 1, 20, 21, 2, 22, 23, 24, 25, 6, 26, 27, 28, 29, 30, 31, 32, 33, 34, 13, 14, 15, 35, 36, 37, 38, 39, 40, 41, 42, 43, 44, 45, 46, 47] (by decide +kernel) (by decide +kernel)
set_option maxRecDepth 20000 in
theorem gX1_isolate_X1_turn : GoodIn wsX1_isolate (wsV RX1 64 RX1 yX1_turn wsX1_turn) := goodIn_app (goodIn_of _ (by decide +kernel)) ggX1_isolate_X1_turn
theorem dX1_isolate_0 : decode cX1_isolate 0 = .ok (.aload_n 0, 1) := by decide +kernel
theorem dX1_isolate_1 : decode cX1_isolate 1 = .ok (.aload_n 0, 1) := by decide +kernel
theorem dX1_isolate_2 : decode cX1_isolate 2 = .ok (.iload_n 1, 1) := by decide +kernel
theorem dX1_isolate_3 : decode cX1_isolate 3 = .ok (.invokevirtual 57, 3) := by decide +kernel
theorem dX1_isolate_6 : decode cX1_isolate 6 = .ok (.ifCond .eq 7, 3) := by decide +kernel
theorem dX1_isolate_9 : decode cX1_isolate 9 = .ok (.iconst 0, 1) := by decide +kernel
theorem dX1_isolate_10 : decode cX1_isolate 10 = .ok (.goto 4, 3) := by decide +kernel
theorem dX1_isolate_13 : decode cX1_isolate 13 = .ok (.iconst 1, 1) := by decide +kernel
theorem dX1_isolate_14 : decode cX1_isolate 14 = .ok (.invokevirtual 47, 3) := by decide +kernel
theorem dX1_isolate_17 : decode cX1_isolate 17 = .ok (.ifCond .ne 5, 3) := by decide +kernel
theorem dX1_isolate_20 : decode cX1_isolate 20 = .ok (.iconst 0, 1) := by decide +kernel
theorem dX1_isolate_21 : decode cX1_isolate 21 = .ok (.ireturn, 1) := by decide +kernel
theorem dX1_isolate_22 : decode cX1_isolate 22 = .ok (.iconst 0, 1) := by decide +kernel
theorem dX1_isolate_23 : decode cX1_isolate 23 = .ok (.istore_n 2, 1) := by decide +kernel
theorem dX1_isolate_24 : decode cX1_isolate 24 = .ok (.iconst 0, 1) := by decide +kernel
theorem dX1_isolate_25 : decode cX1_isolate 25 = .ok (.istore_n 3, 1) := by decide +kernel
theorem dX1_isolate_26 : decode cX1_isolate 26 = .ok (.iload_n 3, 1) := by decide +kernel
theorem dX1_isolate_27 : decode cX1_isolate 27 = .ok (.aload_n 0, 1) := by decide +kernel
theorem dX1_isolate_28 : decode cX1_isolate 28 = .ok (.getfield 29, 3) := by decide +kernel
theorem dX1_isolate_31 : decode cX1_isolate 31 = .ok (.if_icmp .ge 33, 3) := by decide +kernel
theorem dX1_isolate_34 : decode cX1_isolate 34 = .ok (.aload_n 0, 1) := by decide +kernel
theorem dX1_isolate_35 : decode cX1_isolate 35 = .ok (.getfield 7, 3) := by decide +kernel
theorem dX1_isolate_38 : decode cX1_isolate 38 = .ok (.iload_n 1, 1) := by decide +kernel
theorem dX1_isolate_39 : decode cX1_isolate 39 = .ok (.iaload, 1) := by decide +kernel
theorem dX1_isolate_40 : decode cX1_isolate 40 = .ok (.iload_n 3, 1) := by decide +kernel
theorem dX1_isolate_41 : decode cX1_isolate 41 = .ok (.invokestatic 36, 3) := by decide +kernel
theorem dX1_isolate_44 : decode cX1_isolate 44 = .ok (.ifCond .eq 14, 3) := by decide +kernel
theorem dX1_isolate_47 : decode cX1_isolate 47 = .ok (.aload_n 0, 1) := by decide +kernel
theorem dX1_isolate_48 : decode cX1_isolate 48 = .ok (.iload_n 1, 1) := by decide +kernel
theorem dX1_isolate_49 : decode cX1_isolate 49 = .ok (.iload_n 3, 1) := by decide +kernel
theorem dX1_isolate_50 : decode cX1_isolate 50 = .ok (.invokevirtual 64, 3) := by decide +kernel
theorem dX1_isolate_53 : decode cX1_isolate 53 = .ok (.istore 4, 2) := by decide +kernel
theorem dX1_isolate_55 : decode cX1_isolate 55 = .ok (.iinc 2 1, 3) := by decide +kernel
theorem dX1_isolate_58 : decode cX1_isolate 58 = .ok (.iinc 3 1, 3) := by decide +kernel
theorem dX1_isolate_61 : decode cX1_isolate 61 = .ok (.goto (-35), 3) := by decide +kernel
theorem dX1_isolate_64 : decode cX1_isolate 64 = .ok (.iload_n 2, 1) := by decide +kernel
theorem dX1_isolate_65 : decode cX1_isolate 65 = .ok (.ireturn, 1) := by decide +kernel
theorem dX1_nodes_0 : decode cX1_nodes 0 = .ok (.aload_n 0, 1) := by decide +kernel
theorem dX1_nodes_1 : decode cX1_nodes 1 = .ok (.iconst 0, 1) := by decide +kernel
theorem dX1_nodes_2 : decode cX1_nodes 2 = .ok (.putfield 25, 3) := by decide +kernel
theorem dX1_nodes_5 : decode cX1_nodes 5 = .ok (.aload_n 0, 1) := by decide +kernel
theorem dX1_nodes_6 : decode cX1_nodes 6 = .ok (.getfield 29, 3) := by decide +kernel
theorem dX1_nodes_9 : decode cX1_nodes 9 = .ok (.ireturn, 1) := by decide +kernel
set_option maxRecDepth 20000 in
theorem ggX1_edgesOf_X1_has : GoodIn wsX1_edgesOf wsX1_has := goodIn_r _ [6] (by decide +kernel) (by decide +kernel)
set_option maxRecDepth 20000 in
theorem gX1_edgesOf_X1_has : GoodIn wsX1_edgesOf (va_wsS RX1 36 yX1_has wsX1_has) := goodIn_app (goodIn_of _ (by decide +kernel)) ggX1_edgesOf_X1_has
set_option maxRecDepth 20000 in
theorem ggX1_edgesOf_X1_sizeOf : GoodIn wsX1_edgesOf wsX1_sizeOf := goodIn_r _ [9] (by decide +kernel) (by decide +kernel)
set_option maxRecDepth 20000 in
theorem gX1_edgesOf_X1_sizeOf : GoodIn wsX1_edgesOf (va_wsS RX1 40 yX1_sizeOf wsX1_sizeOf) := goodIn_app (goodIn_of _ (by decide +kernel)) ggX1_edgesOf_X1_sizeOf
theorem dX1_edgesOf_0 : decode cX1_edgesOf 0 = .ok (.iconst 0, 1) := by decide +kernel
theorem dX1_edgesOf_1 : decode cX1_edgesOf 1 = .ok (.istore_n 2, 1) := by decide +kernel
theorem dX1_edgesOf_2 : decode cX1_edgesOf 2 = .ok (.iconst 0, 1) := by decide +kernel
theorem dX1_edgesOf_3 : decode cX1_edgesOf 3 = .ok (.istore_n 3, 1) := by decide +kernel
theorem dX1_edgesOf_4 : decode cX1_edgesOf 4 = .ok (.iload_n 3, 1) := by decide +kernel
theorem dX1_edgesOf_5 : decode cX1_edgesOf 5 = .ok (.aload_n 0, 1) := by decide +kernel
theorem dX1_edgesOf_6 : decode cX1_edgesOf 6 = .ok (.getfield 29, 3) := by decide +kernel
theorem dX1_edgesOf_9 : decode cX1_edgesOf 9 = .ok (.if_icmp .ge 35, 3) := by decide +kernel
theorem dX1_edgesOf_12 : decode cX1_edgesOf 12 = .ok (.iload_n 2, 1) := by decide +kernel
theorem dX1_edgesOf_13 : decode cX1_edgesOf 13 = .ok (.iload_n 1, 1) := by decide +kernel
theorem dX1_edgesOf_14 : decode cX1_edgesOf 14 = .ok (.iload_n 3, 1) := by decide +kernel
theorem dX1_edgesOf_15 : decode cX1_edgesOf 15 = .ok (.invokestatic 36, 3) := by decide +kernel
theorem dX1_edgesOf_18 : decode cX1_edgesOf 18 = .ok (.ifCond .eq 17, 3) := by decide +kernel
theorem dX1_edgesOf_21 : decode cX1_edgesOf 21 = .ok (.aload_n 0, 1) := by decide +kernel
theorem dX1_edgesOf_22 : decode cX1_edgesOf 22 = .ok (.getfield 7, 3) := by decide +kernel
theorem dX1_edgesOf_25 : decode cX1_edgesOf 25 = .ok (.iload_n 3, 1) := by decide +kernel
theorem dX1_edgesOf_26 : decode cX1_edgesOf 26 = .ok (.iaload, 1) := by decide +kernel
theorem dX1_edgesOf_27 : decode cX1_edgesOf 27 = .ok (.iload_n 1, 1) := by decide +kernel
theorem dX1_edgesOf_28 : decode cX1_edgesOf 28 = .ok (.iand, 1) := by decide +kernel
theorem dX1_edgesOf_29 : decode cX1_edgesOf 29 = .ok (.invokestatic 40, 3) := by decide +kernel
theorem dX1_edgesOf_32 : decode cX1_edgesOf 32 = .ok (.goto 4, 3) := by decide +kernel
theorem dX1_edgesOf_35 : decode cX1_edgesOf 35 = .ok (.iconst 0, 1) := by decide +kernel
theorem dX1_edgesOf_36 : decode cX1_edgesOf 36 = .ok (.iadd, 1) := by decide +kernel
theorem dX1_edgesOf_37 : decode cX1_edgesOf 37 = .ok (.istore_n 2, 1) := by decide +kernel
theorem dX1_edgesOf_38 : decode cX1_edgesOf 38 = .ok (.iinc 3 1, 3) := by decide +kernel
theorem dX1_edgesOf_41 : decode cX1_edgesOf 41 = .ok (.goto (-37), 3) := by decide +kernel
theorem dX1_edgesOf_44 : decode cX1_edgesOf 44 = .ok (.iload_n 2, 1) := by decide +kernel
theorem dX1_edgesOf_45 : decode cX1_edgesOf 45 = .ok (.iconst 2, 1) := by decide +kernel
theorem dX1_edgesOf_46 : decode cX1_edgesOf 46 = .ok (.idiv, 1) := by decide +kernel
theorem dX1_edgesOf_47 : decode cX1_edgesOf 47 = .ok (.ireturn, 1) := by decide +kernel
set_option maxRecDepth 20000 in
theorem ggX1_edges_X1_all : GoodIn wsX1_edges wsX1_all := goodIn_r _ [6, 7, 19, 20, 21, 22, 23, 24, 25, 26, 27, 28] (by decide +kernel) (by decide +kernel)
set_option maxRecDepth 20000 in
theorem gX1_edges_X1_all : GoodIn wsX1_edges (wsV RX1 32 RX1 yX1_all wsX1_all) := goodIn_app (goodIn_of _ (by decide +kernel)) ggX1_edges_X1_all
set_option maxRecDepth 20000 in
theorem ggX1_edges_X1_edgesOf : GoodIn wsX1_edges wsX1_edgesOf := goodIn_r _ [11, 7, 12, 13, 14, 5, 15, 16, 17, 18, 19, 20, 21, 22, 23, 24, 25, 26, 27, 28] (by decide +kernel) (by decide +kernel)
set_option maxRecDepth 20000 in
theorem gX1_edges_X1_edgesOf : GoodIn wsX1_edges (wsV RX1 67 RX1 yX1_edgesOf wsX1_edgesOf) := goodIn_app (goodIn_of _ (by decide +kernel)) ggX1_edges_X1_edgesOf
theorem dX1_edges_0 : decode cX1_edges 0 = .ok (.aload_n 0, 1) := by decide +kernel
theorem dX1_edges_1 : decode cX1_edges 1 = .ok (.iconst 0, 1) := by decide +kernel
theorem dX1_edges_2 : decode cX1_edges 2 = .ok (.putfield 25, 3) := by decide +kernel
theorem dX1_edges_5 : decode cX1_edges 5 = .ok (.aload_n 0, 1) := by decide +kernel
theorem dX1_edges_6 : decode cX1_edges 6 = .ok (.aload_n 0, 1) := by decide +kernel
theorem dX1_edges_7 : decode cX1_edges 7 = .ok (.invokevirtual 32, 3) := by decide +kernel
theorem dX1_edges_10 : decode cX1_edges 10 = .ok (.invokevirtual 67, 3) := by decide +kernel
theorem dX1_edges_13 : decode cX1_edges 13 = .ok (.ireturn, 1) := by decide +kernel
set_option maxRecDepth 20000 in
theorem ggX1_degree_X1_isNode : GoodIn wsX1_degree wsX1_isNode := goodIn_r _ [6, 7, 16, 17, 18, 19, 20, 21, 22, 23, 24, 25] (by decide +kernel) (by decide +kernel)
set_option maxRecDepth 20000 in
theorem gX1_degree_X1_isNode : GoodIn wsX1_degree (wsV RX1 57 RX1 yX1_isNode wsX1_isNode) := goodIn_app (goodIn_of _ (by decide +kernel)) ggX1_degree_X1_isNode
set_option maxRecDepth 20000 in
theorem ggX1_degree_X1_goesWell : GoodIn wsX1_degree wsX1_goesWell := goodIn_r _ [11, 12, 16, 17, 18, 19, 20, 21, 22, 23, 24, 25] (by decide +kernel) (by decide +kernel)
set_option maxRecDepth 20000 in
theorem gX1_degree_X1_goesWell : GoodIn wsX1_degree (wsV RX1 47 RX1 yX1_goesWell wsX1_goesWell) := goodIn_app (goodIn_of _ (by decide +kernel)) ggX1_degree_X1_goesWell
set_option maxRecDepth 20000 in
theorem ggX1_degree_X1_sizeOf : GoodIn wsX1_degree wsX1_sizeOf := goodIn_r _ [15] (by decide +kernel) (by decide +kernel)
set_option maxRecDepth 20000 in
theorem gX1_degree_X1_sizeOf : GoodIn wsX1_degree (va_wsS RX1 40 yX1_sizeOf wsX1_sizeOf) := goodIn_app (goodIn_of _ (by decide +kernel)) ggX1_degree_X1_sizeOf
theorem dX1_degree_0 : decode cX1_degree 0 = .ok (.aload_n 0, 1) := by decide +kernel
theorem dX1_degree_1 : decode cX1_degree 1 = .ok (.aload_n 0, 1) := by decide +kernel
theorem dX1_degree_2 : decode cX1_degree 2 = .ok (.iload_n 1, 1) := by decide +kernel
theorem dX1_degree_3 : decode cX1_degree 3 = .ok (.invokevirtual 57, 3) := by decide +kernel
theorem dX1_degree_6 : decode cX1_degree 6 = .ok (.ifCond .eq 7, 3) := by decide +kernel
theorem dX1_degree_9 : decode cX1_degree 9 = .ok (.iconst 0, 1) := by decide +kernel
theorem dX1_degree_10 : decode cX1_degree 10 = .ok (.goto 4, 3) := by decide +kernel
theorem dX1_degree_13 : decode cX1_degree 13 = .ok (.iconst 1, 1) := by decide +kernel
theorem dX1_degree_14 : decode cX1_degree 14 = .ok (.invokevirtual 47, 3) := by decide +kernel
theorem dX1_degree_17 : decode cX1_degree 17 = .ok (.ifCond .eq 15, 3) := by decide +kernel
theorem dX1_degree_20 : decode cX1_degree 20 = .ok (.aload_n 0, 1) := by decide +kernel
theorem dX1_degree_21 : decode cX1_degree 21 = .ok (.getfield 7, 3) := by decide +kernel
theorem dX1_degree_24 : decode cX1_degree 24 = .ok (.iload_n 1, 1) := by decide +kernel
theorem dX1_degree_25 : decode cX1_degree 25 = .ok (.iaload, 1) := by decide +kernel
theorem dX1_degree_26 : decode cX1_degree 26 = .ok (.invokestatic 40, 3) := by decide +kernel
theorem dX1_degree_29 : decode cX1_degree 29 = .ok (.goto 4, 3) := by decide +kernel
theorem dX1_degree_32 : decode cX1_degree 32 = .ok (.iconst 0, 1) := by decide +kernel
theorem dX1_degree_33 : decode cX1_degree 33 = .ok (.ireturn, 1) := by decide +kernel
set_option maxRecDepth 20000 in
theorem ggX1_neighbour_X1_isNode : GoodIn wsX1_neighbour wsX1_isNode := goodIn_r _ [6, 7, 19, 20, 21, 22, 23, 24, 25, 26, 27, 28] (by decide +kernel) (by decide +kernel)
set_option maxRecDepth 20000 in
theorem gX1_neighbour_X1_isNode : GoodIn wsX1_neighbour (wsV RX1 57 RX1 yX1_isNode wsX1_isNode) := goodIn_app (goodIn_of _ (by decide +kernel)) ggX1_neighbour_X1_isNode
set_option maxRecDepth 20000 in
theorem ggX1_neighbour_X1_sizeOf : GoodIn wsX1_neighbour wsX1_sizeOf := goodIn_r _ [10] (by decide +kernel) (by decide +kernel)
set_option maxRecDepth 20000 in
theorem gX1_neighbour_X1_sizeOf : GoodIn wsX1_neighbour (va_wsS RX1 40 yX1_sizeOf wsX1_sizeOf) := goodIn_app (goodIn_of _ (by decide +kernel)) ggX1_neighbour_X1_sizeOf
set_option maxRecDepth 20000 in
theorem ggX1_neighbour_X1_goesWell : GoodIn wsX1_neighbour wsX1_goesWell := goodIn_r _ [14, 15, 19, 20, 21, 22, 23, 24, 25, 26, 27, 28] (by decide +kernel) (by decide +kernel)
set_option maxRecDepth 20000 in
theorem gX1_neighbour_X1_goesWell : GoodIn wsX1_neighbour (wsV RX1 47 RX1 yX1_goesWell wsX1_goesWell) := goodIn_app (goodIn_of _ (by decide +kernel)) ggX1_neighbour_X1_goesWell
set_option maxRecDepth 20000 in
theorem ggX1_neighbour_X1_has : GoodIn wsX1_neighbour wsX1_has := goodIn_r _ [18] (by decide +kernel) (by decide +kernel)
set_option maxRecDepth 20000 in
theorem gX1_neighbour_X1_has : GoodIn wsX1_neighbour (va_wsS RX1 36 yX1_has wsX1_has) := goodIn_app (goodIn_of _ (by decide +kernel)) ggX1_neighbour_X1_has
theorem dX1_neighbour_0 : decode cX1_neighbour 0 = .ok (.aload_n 0, 1) := by decide +kernel
theorem dX1_neighbour_1 : decode cX1_neighbour 1 = .ok (.iload_n 1, 1) := by decide +kernel
theorem dX1_neighbour_2 : decode cX1_neighbour 2 = .ok (.invokevirtual 57, 3) := by decide +kernel
theorem dX1_neighbour_5 : decode cX1_neighbour 5 = .ok (.ifCond .eq 24, 3) := by decide +kernel
theorem dX1_neighbour_8 : decode cX1_neighbour 8 = .ok (.iload_n 2, 1) := by decide +kernel
theorem dX1_neighbour_9 : decode cX1_neighbour 9 = .ok (.ifCond .lt 20, 3) := by decide +kernel
theorem dX1_neighbour_12 : decode cX1_neighbour 12 = .ok (.iload_n 2, 1) := by decide +kernel
theorem dX1_neighbour_13 : decode cX1_neighbour 13 = .ok (.aload_n 0, 1) := by decide +kernel
theorem dX1_neighbour_14 : decode cX1_neighbour 14 = .ok (.getfield 7, 3) := by decide +kernel
theorem dX1_neighbour_17 : decode cX1_neighbour 17 = .ok (.iload_n 1, 1) := by decide +kernel
theorem dX1_neighbour_18 : decode cX1_neighbour 18 = .ok (.iaload, 1) := by decide +kernel
theorem dX1_neighbour_19 : decode cX1_neighbour 19 = .ok (.invokestatic 40, 3) := by decide +kernel
theorem dX1_neighbour_22 : decode cX1_neighbour 22 = .ok (.if_icmp .ge 7, 3) := by decide +kernel
theorem dX1_neighbour_25 : decode cX1_neighbour 25 = .ok (.iconst 1, 1) := by decide +kernel
theorem dX1_neighbour_26 : decode cX1_neighbour 26 = .ok (.goto 4, 3) := by decide +kernel
theorem dX1_neighbour_29 : decode cX1_neighbour 29 = .ok (.iconst 0, 1) := by decide +kernel
theorem dX1_neighbour_30 : decode cX1_neighbour 30 = .ok (.istore_n 3, 1) := by decide +kernel
theorem dX1_neighbour_31 : decode cX1_neighbour 31 = .ok (.aload_n 0, 1) := by decide +kernel
theorem dX1_neighbour_32 : decode cX1_neighbour 32 = .ok (.iload_n 3, 1) := by decide +kernel
theorem dX1_neighbour_33 : decode cX1_neighbour 33 = .ok (.ifCond .eq 7, 3) := by decide +kernel
theorem dX1_neighbour_36 : decode cX1_neighbour 36 = .ok (.iconst 0, 1) := by decide +kernel
theorem dX1_neighbour_37 : decode cX1_neighbour 37 = .ok (.goto 4, 3) := by decide +kernel
theorem dX1_neighbour_40 : decode cX1_neighbour 40 = .ok (.iconst 1, 1) := by decide +kernel
theorem dX1_neighbour_41 : decode cX1_neighbour 41 = .ok (.invokevirtual 47, 3) := by decide +kernel
theorem dX1_neighbour_44 : decode cX1_neighbour 44 = .ok (.ifCond .ne 5, 3) := by decide +kernel
theorem dX1_neighbour_47 : decode cX1_neighbour 47 = .ok (.iconst 0, 1) := by decide +kernel
theorem dX1_neighbour_48 : decode cX1_neighbour 48 = .ok (.ireturn, 1) := by decide +kernel
theorem dX1_neighbour_49 : decode cX1_neighbour 49 = .ok (.iconst 0, 1) := by decide +kernel
theorem dX1_neighbour_50 : decode cX1_neighbour 50 = .ok (.istore 4, 2) := by decide +kernel
theorem dX1_neighbour_52 : decode cX1_neighbour 52 = .ok (.iload_n 2, 1) := by decide +kernel
theorem dX1_neighbour_53 : decode cX1_neighbour 53 = .ok (.istore 5, 2) := by decide +kernel
theorem dX1_neighbour_55 : decode cX1_neighbour 55 = .ok (.iload 5, 2) := by decide +kernel
theorem dX1_neighbour_57 : decode cX1_neighbour 57 = .ok (.ifCond .gt 17, 3) := by decide +kernel
theorem dX1_neighbour_60 : decode cX1_neighbour 60 = .ok (.aload_n 0, 1) := by decide +kernel
theorem dX1_neighbour_61 : decode cX1_neighbour 61 = .ok (.getfield 7, 3) := by decide +kernel
theorem dX1_neighbour_64 : decode cX1_neighbour 64 = .ok (.iload_n 1, 1) := by decide +kernel
theorem dX1_neighbour_65 : decode cX1_neighbour 65 = .ok (.iaload, 1) := by decide +kernel
theorem dX1_neighbour_66 : decode cX1_neighbour 66 = .ok (.iload 4, 2) := by decide +kernel
theorem dX1_neighbour_68 : decode cX1_neighbour 68 = .ok (.invokestatic 36, 3) := by decide +kernel
theorem dX1_neighbour_71 : decode cX1_neighbour 71 = .ok (.ifCond .ne 33, 3) := by decide +kernel
theorem dX1_neighbour_74 : decode cX1_neighbour 74 = .ok (.iload 5, 2) := by decide +kernel
theorem dX1_neighbour_76 : decode cX1_neighbour 76 = .ok (.aload_n 0, 1) := by decide +kernel
theorem dX1_neighbour_77 : decode cX1_neighbour 77 = .ok (.getfield 7, 3) := by decide +kernel
theorem dX1_neighbour_80 : decode cX1_neighbour 80 = .ok (.iload_n 1, 1) := by decide +kernel
theorem dX1_neighbour_81 : decode cX1_neighbour 81 = .ok (.iaload, 1) := by decide +kernel
theorem dX1_neighbour_82 : decode cX1_neighbour 82 = .ok (.iload 4, 2) := by decide +kernel
theorem dX1_neighbour_84 : decode cX1_neighbour 84 = .ok (.invokestatic 36, 3) := by decide +kernel
theorem dX1_neighbour_87 : decode cX1_neighbour 87 = .ok (.ifCond .eq 7, 3) := by decide +kernel
theorem dX1_neighbour_90 : decode cX1_neighbour 90 = .ok (.iconst 1, 1) := by decide +kernel
theorem dX1_neighbour_91 : decode cX1_neighbour 91 = .ok (.goto 4, 3) := by decide +kernel
theorem dX1_neighbour_94 : decode cX1_neighbour 94 = .ok (.iconst 0, 1) := by decide +kernel
theorem dX1_neighbour_95 : decode cX1_neighbour 95 = .ok (.isub, 1) := by decide +kernel
theorem dX1_neighbour_96 : decode cX1_neighbour 96 = .ok (.istore 5, 2) := by decide +kernel
theorem dX1_neighbour_98 : decode cX1_neighbour 98 = .ok (.iinc 4 1, 3) := by decide +kernel
theorem dX1_neighbour_101 : decode cX1_neighbour 101 = .ok (.goto (-46), 3) := by decide +kernel
theorem dX1_neighbour_104 : decode cX1_neighbour 104 = .ok (.iload 4, 2) := by decide +kernel
theorem dX1_neighbour_106 : decode cX1_neighbour 106 = .ok (.ireturn, 1) := by decide +kernel
set_option maxRecDepth 20000 in
theorem ggX1_areJoined_X1_isNode : GoodIn wsX1_areJoined wsX1_isNode := goodIn_r _ [6, 7, 16, 17, 18, 19, 20, 21, 22, 23, 24, 25] (by decide +kernel) (by decide +kernel)
set_option maxRecDepth 20000 in
theorem gX1_areJoined_X1_isNode : GoodIn wsX1_areJoined (wsV RX1 57 RX1 yX1_isNode wsX1_isNode) := goodIn_app (goodIn_of _ (by decide +kernel)) ggX1_areJoined_X1_isNode
set_option maxRecDepth 20000 in
theorem ggX1_areJoined_X1_goesWell : GoodIn wsX1_areJoined wsX1_goesWell := goodIn_r _ [11, 12, 16, 17, 18, 19, 20, 21, 22, 23, 24, 25] (by decide +kernel) (by decide +kernel)
set_option maxRecDepth 20000 in
theorem gX1_areJoined_X1_goesWell : GoodIn wsX1_areJoined (wsV RX1 47 RX1 yX1_goesWell wsX1_goesWell) := goodIn_app (goodIn_of _ (by decide +kernel)) ggX1_areJoined_X1_goesWell
set_option maxRecDepth 20000 in
theorem ggX1_areJoined_X1_has : GoodIn wsX1_areJoined wsX1_has := goodIn_r _ [15] (by decide +kernel) (by decide +kernel)
set_option maxRecDepth 20000 in
theorem gX1_areJoined_X1_has : GoodIn wsX1_areJoined (va_wsS RX1 36 yX1_has wsX1_has) := goodIn_app (goodIn_of _ (by decide +kernel)) ggX1_areJoined_X1_has
theorem dX1_areJoined_0 : decode cX1_areJoined 0 = .ok (.aload_n 0, 1) := by decide +kernel
theorem dX1_areJoined_1 : decode cX1_areJoined 1 = .ok (.aload_n 0, 1) := by decide +kernel
theorem dX1_areJoined_2 : decode cX1_areJoined 2 = .ok (.iload_n 1, 1) := by decide +kernel
theorem dX1_areJoined_3 : decode cX1_areJoined 3 = .ok (.invokevirtual 57, 3) := by decide +kernel
theorem dX1_areJoined_6 : decode cX1_areJoined 6 = .ok (.ifCond .eq 15, 3) := by decide +kernel
theorem dX1_areJoined_9 : decode cX1_areJoined 9 = .ok (.aload_n 0, 1) := by decide +kernel
theorem dX1_areJoined_10 : decode cX1_areJoined 10 = .ok (.iload_n 2, 1) := by decide +kernel
theorem dX1_areJoined_11 : decode cX1_areJoined 11 = .ok (.invokevirtual 57, 3) := by decide +kernel
theorem dX1_areJoined_14 : decode cX1_areJoined 14 = .ok (.ifCond .eq 7, 3) := by decide +kernel
theorem dX1_areJoined_17 : decode cX1_areJoined 17 = .ok (.iconst 0, 1) := by decide +kernel
theorem dX1_areJoined_18 : decode cX1_areJoined 18 = .ok (.goto 4, 3) := by decide +kernel
theorem dX1_areJoined_21 : decode cX1_areJoined 21 = .ok (.iconst 1, 1) := by decide +kernel
theorem dX1_areJoined_22 : decode cX1_areJoined 22 = .ok (.invokevirtual 47, 3) := by decide +kernel
theorem dX1_areJoined_25 : decode cX1_areJoined 25 = .ok (.ifCond .eq 20, 3) := by decide +kernel
theorem dX1_areJoined_28 : decode cX1_areJoined 28 = .ok (.aload_n 0, 1) := by decide +kernel
theorem dX1_areJoined_29 : decode cX1_areJoined 29 = .ok (.getfield 7, 3) := by decide +kernel
theorem dX1_areJoined_32 : decode cX1_areJoined 32 = .ok (.iload_n 1, 1) := by decide +kernel
theorem dX1_areJoined_33 : decode cX1_areJoined 33 = .ok (.iaload, 1) := by decide +kernel
theorem dX1_areJoined_34 : decode cX1_areJoined 34 = .ok (.iload_n 2, 1) := by decide +kernel
theorem dX1_areJoined_35 : decode cX1_areJoined 35 = .ok (.invokestatic 36, 3) := by decide +kernel
theorem dX1_areJoined_38 : decode cX1_areJoined 38 = .ok (.ifCond .eq 7, 3) := by decide +kernel
theorem dX1_areJoined_41 : decode cX1_areJoined 41 = .ok (.iconst 1, 1) := by decide +kernel
theorem dX1_areJoined_42 : decode cX1_areJoined 42 = .ok (.goto 4, 3) := by decide +kernel
theorem dX1_areJoined_45 : decode cX1_areJoined 45 = .ok (.iconst 0, 1) := by decide +kernel
theorem dX1_areJoined_46 : decode cX1_areJoined 46 = .ok (.ireturn, 1) := by decide +kernel
set_option maxRecDepth 20000 in
theorem ggX1_core_X1_isNode : GoodIn wsX1_core wsX1_isNode := goodIn_r _ [6, 7, 32, 33, 34, 35, 36, 37, 38, 39, 40, 41] (by decide +kernel) (by decide +kernel)
set_option maxRecDepth 20000 in
theorem gX1_core_X1_isNode : GoodIn wsX1_core (wsV RX1 57 RX1 yX1_isNode wsX1_isNode) := goodIn_app (goodIn_of _ (by decide +kernel)) ggX1_core_X1_isNode
set_option maxRecDepth 20000 in
theorem ggX1_core_X1_goesWell : GoodIn wsX1_core wsX1_goesWell := goodIn_r _ [11, 12, 32, 33, 34, 35, 36, 37, 38, 39, 40, 41] (by decide +kernel) (by decide +kernel)
set_option maxRecDepth 20000 in
theorem gX1_core_X1_goesWell : GoodIn wsX1_core (wsV RX1 47 RX1 yX1_goesWell wsX1_goesWell) := goodIn_app (goodIn_of _ (by decide +kernel)) ggX1_core_X1_goesWell
set_option maxRecDepth 20000 in
theorem ggX1_core_X1_layCores : GoodIn wsX1_core wsX1_layCores := goodIn_r _ [16, 7, 1, 17, 18, 19, 5, 20, 21, 22, 23, 24, 25, 26, 27, 28, 29, 30, 31, 32, 33, 34, 35, 36, 37, 38, 39, 40, 41] (by decide +kernel) (by decide +kernel)
set_option maxRecDepth 20000 in
theorem gX1_core_X1_layCores : GoodIn wsX1_core (wsV RX1 51 RX1 yX1_layCores wsX1_layCores) := goodIn_app (goodIn_of _ (by decide +kernel)) ggX1_core_X1_layCores
theorem dX1_core_0 : decode cX1_core 0 = .ok (.aload_n 0, 1) := by decide +kernel
theorem dX1_core_1 : decode cX1_core 1 = .ok (.aload_n 0, 1) := by decide +kernel
theorem dX1_core_2 : decode cX1_core 2 = .ok (.iload_n 1, 1) := by decide +kernel
theorem dX1_core_3 : decode cX1_core 3 = .ok (.invokevirtual 57, 3) := by decide +kernel
theorem dX1_core_6 : decode cX1_core 6 = .ok (.ifCond .eq 7, 3) := by decide +kernel
theorem dX1_core_9 : decode cX1_core 9 = .ok (.iconst 0, 1) := by decide +kernel
theorem dX1_core_10 : decode cX1_core 10 = .ok (.goto 4, 3) := by decide +kernel
theorem dX1_core_13 : decode cX1_core 13 = .ok (.iconst 1, 1) := by decide +kernel
theorem dX1_core_14 : decode cX1_core 14 = .ok (.invokevirtual 47, 3) := by decide +kernel
theorem dX1_core_17 : decode cX1_core 17 = .ok (.ifCond .ne 5, 3) := by decide +kernel
theorem dX1_core_20 : decode cX1_core 20 = .ok (.iconst 0, 1) := by decide +kernel
theorem dX1_core_21 : decode cX1_core 21 = .ok (.ireturn, 1) := by decide +kernel
theorem dX1_core_22 : decode cX1_core 22 = .ok (.aload_n 0, 1) := by decide +kernel
theorem dX1_core_23 : decode cX1_core 23 = .ok (.invokevirtual 51, 3) := by decide +kernel
theorem dX1_core_26 : decode cX1_core 26 = .ok (.aload_n 0, 1) := by decide +kernel
theorem dX1_core_27 : decode cX1_core 27 = .ok (.getfield 13, 3) := by decide +kernel
theorem dX1_core_30 : decode cX1_core 30 = .ok (.iload_n 1, 1) := by decide +kernel
theorem dX1_core_31 : decode cX1_core 31 = .ok (.iaload, 1) := by decide +kernel
theorem dX1_core_32 : decode cX1_core 32 = .ok (.ireturn, 1) := by decide +kernel
set_option maxRecDepth 20000 in
theorem ggX1_degeneracy_X1_coreOf : GoodIn wsX1_degeneracy wsX1_coreOf := goodIn_r _ [6, 7, 8, 9, 10, 11, 5, 12, 13, 14, 15, 16, 17, 18, 19, 20, 21, 22, 23, 24, 25, 26, 27, 28] (by decide +kernel) (by decide +kernel)
set_option maxRecDepth 20000 in
theorem gX1_degeneracy_X1_coreOf : GoodIn wsX1_degeneracy (wsV RX1 44 RX1 yX1_coreOf wsX1_coreOf) := goodIn_app (goodIn_of _ (by decide +kernel)) ggX1_degeneracy_X1_coreOf
theorem dX1_degeneracy_0 : decode cX1_degeneracy 0 = .ok (.aload_n 0, 1) := by decide +kernel
theorem dX1_degeneracy_1 : decode cX1_degeneracy 1 = .ok (.iconst 0, 1) := by decide +kernel
theorem dX1_degeneracy_2 : decode cX1_degeneracy 2 = .ok (.putfield 25, 3) := by decide +kernel
theorem dX1_degeneracy_5 : decode cX1_degeneracy 5 = .ok (.iconst 0, 1) := by decide +kernel
theorem dX1_degeneracy_6 : decode cX1_degeneracy 6 = .ok (.istore_n 1, 1) := by decide +kernel
theorem dX1_degeneracy_7 : decode cX1_degeneracy 7 = .ok (.aload_n 0, 1) := by decide +kernel
theorem dX1_degeneracy_8 : decode cX1_degeneracy 8 = .ok (.iload_n 1, 1) := by decide +kernel
theorem dX1_degeneracy_9 : decode cX1_degeneracy 9 = .ok (.iconst 1, 1) := by decide +kernel
theorem dX1_degeneracy_10 : decode cX1_degeneracy 10 = .ok (.iadd, 1) := by decide +kernel
theorem dX1_degeneracy_11 : decode cX1_degeneracy 11 = .ok (.invokevirtual 44, 3) := by decide +kernel
theorem dX1_degeneracy_14 : decode cX1_degeneracy 14 = .ok (.ifCond .eq 9, 3) := by decide +kernel
theorem dX1_degeneracy_17 : decode cX1_degeneracy 17 = .ok (.iinc 1 1, 3) := by decide +kernel
theorem dX1_degeneracy_20 : decode cX1_degeneracy 20 = .ok (.goto (-13), 3) := by decide +kernel
theorem dX1_degeneracy_23 : decode cX1_degeneracy 23 = .ok (.iload_n 1, 1) := by decide +kernel
theorem dX1_degeneracy_24 : decode cX1_degeneracy 24 = .ok (.ireturn, 1) := by decide +kernel
set_option maxRecDepth 20000 in
theorem ggX1_coreSize_X1_goesWell : GoodIn wsX1_coreSize wsX1_goesWell := goodIn_r _ [5, 6, 23, 24, 25, 26, 27, 28, 29, 30, 31, 32] (by decide +kernel) (by decide +kernel)
set_option maxRecDepth 20000 in
theorem gX1_coreSize_X1_goesWell : GoodIn wsX1_coreSize (wsV RX1 47 RX1 yX1_goesWell wsX1_goesWell) := goodIn_app (goodIn_of _ (by decide +kernel)) ggX1_coreSize_X1_goesWell
set_option maxRecDepth 20000 in
theorem ggX1_coreSize_X1_coreOf : GoodIn wsX1_coreSize wsX1_coreOf := goodIn_r _ [10, 11, 12, 13, 14, 15, 4, 16, 17, 18, 19, 20, 21, 22, 23, 24, 25, 26, 27, 28, 29, 30, 31, 32] (by decide +kernel) (by decide +kernel)
set_option maxRecDepth 20000 in
theorem gX1_coreSize_X1_coreOf : GoodIn wsX1_coreSize (wsV RX1 44 RX1 yX1_coreOf wsX1_coreOf) := goodIn_app (goodIn_of _ (by decide +kernel)) ggX1_coreSize_X1_coreOf
set_option maxRecDepth 20000 in
theorem ggX1_coreSize_X1_sizeOf : GoodIn wsX1_coreSize wsX1_sizeOf := goodIn_r _ [22] (by decide +kernel) (by decide +kernel)
set_option maxRecDepth 20000 in
theorem gX1_coreSize_X1_sizeOf : GoodIn wsX1_coreSize (va_wsS RX1 40 yX1_sizeOf wsX1_sizeOf) := goodIn_app (goodIn_of _ (by decide +kernel)) ggX1_coreSize_X1_sizeOf
theorem dX1_coreSize_0 : decode cX1_coreSize 0 = .ok (.aload_n 0, 1) := by decide +kernel
theorem dX1_coreSize_1 : decode cX1_coreSize 1 = .ok (.iload_n 1, 1) := by decide +kernel
theorem dX1_coreSize_2 : decode cX1_coreSize 2 = .ok (.ifCond .ge 7, 3) := by decide +kernel
theorem dX1_coreSize_5 : decode cX1_coreSize 5 = .ok (.iconst 1, 1) := by decide +kernel
theorem dX1_coreSize_6 : decode cX1_coreSize 6 = .ok (.goto 4, 3) := by decide +kernel
theorem dX1_coreSize_9 : decode cX1_coreSize 9 = .ok (.iconst 0, 1) := by decide +kernel
theorem dX1_coreSize_10 : decode cX1_coreSize 10 = .ok (.invokevirtual 47, 3) := by decide +kernel
theorem dX1_coreSize_13 : decode cX1_coreSize 13 = .ok (.ifCond .eq 14, 3) := by decide +kernel
theorem dX1_coreSize_16 : decode cX1_coreSize 16 = .ok (.aload_n 0, 1) := by decide +kernel
theorem dX1_coreSize_17 : decode cX1_coreSize 17 = .ok (.iload_n 1, 1) := by decide +kernel
theorem dX1_coreSize_18 : decode cX1_coreSize 18 = .ok (.invokevirtual 44, 3) := by decide +kernel
theorem dX1_coreSize_21 : decode cX1_coreSize 21 = .ok (.invokestatic 40, 3) := by decide +kernel
theorem dX1_coreSize_24 : decode cX1_coreSize 24 = .ok (.goto 4, 3) := by decide +kernel
theorem dX1_coreSize_27 : decode cX1_coreSize 27 = .ok (.iconst 0, 1) := by decide +kernel
theorem dX1_coreSize_28 : decode cX1_coreSize 28 = .ok (.ireturn, 1) := by decide +kernel
theorem dX1_changes_0 : decode cX1_changes 0 = .ok (.aload_n 0, 1) := by decide +kernel
theorem dX1_changes_1 : decode cX1_changes 1 = .ok (.iconst 0, 1) := by decide +kernel
theorem dX1_changes_2 : decode cX1_changes 2 = .ok (.putfield 25, 3) := by decide +kernel
theorem dX1_changes_5 : decode cX1_changes 5 = .ok (.aload_n 0, 1) := by decide +kernel
theorem dX1_changes_6 : decode cX1_changes 6 = .ok (.getfield 54, 3) := by decide +kernel
theorem dX1_changes_9 : decode cX1_changes 9 = .ok (.ireturn, 1) := by decide +kernel
set_option maxRecDepth 20000 in
theorem ggX1_communityOf_X1_coreOf : GoodIn wsX1_communityOf wsX1_coreOf := goodIn_r _ [7, 1, 2, 8, 9, 10, 6, 11, 12, 13, 14, 15, 16, 17, 18, 19, 20, 21, 22, 23, 24, 25, 26, 27] (by decide +kernel) (by decide +kernel)
set_option maxRecDepth 20000 in
theorem gX1_communityOf_X1_coreOf : GoodIn wsX1_communityOf (wsV RX1 44 RX1 yX1_coreOf wsX1_coreOf) := goodIn_app (goodIn_of _ (by decide +kernel)) ggX1_communityOf_X1_coreOf
set_option maxRecDepth 20000 in
theorem ggX1_communityOf_X1_has : GoodIn wsX1_communityOf wsX1_has := goodIn_r _ [14] (by decide +kernel) (by decide +kernel)
set_option maxRecDepth 20000 in
theorem gX1_communityOf_X1_has : GoodIn wsX1_communityOf (va_wsS RX1 36 yX1_has wsX1_has) := goodIn_app (goodIn_of _ (by decide +kernel)) ggX1_communityOf_X1_has
theorem dX1_communityOf_0 : decode cX1_communityOf 0 = .ok (.aload_n 0, 1) := by decide +kernel
theorem dX1_communityOf_1 : decode cX1_communityOf 1 = .ok (.iload_n 2, 1) := by decide +kernel
theorem dX1_communityOf_2 : decode cX1_communityOf 2 = .ok (.invokevirtual 44, 3) := by decide +kernel
theorem dX1_communityOf_5 : decode cX1_communityOf 5 = .ok (.istore_n 3, 1) := by decide +kernel
theorem dX1_communityOf_6 : decode cX1_communityOf 6 = .ok (.iload_n 3, 1) := by decide +kernel
theorem dX1_communityOf_7 : decode cX1_communityOf 7 = .ok (.iconst 1, 1) := by decide +kernel
theorem dX1_communityOf_8 : decode cX1_communityOf 8 = .ok (.iload_n 1, 1) := by decide +kernel
theorem dX1_communityOf_9 : decode cX1_communityOf 9 = .ok (.ishl, 1) := by decide +kernel
theorem dX1_communityOf_10 : decode cX1_communityOf 10 = .ok (.iand, 1) := by decide +kernel
theorem dX1_communityOf_11 : decode cX1_communityOf 11 = .ok (.istore 4, 2) := by decide +kernel
theorem dX1_communityOf_13 : decode cX1_communityOf 13 = .ok (.iconst 1, 1) := by decide +kernel
theorem dX1_communityOf_14 : decode cX1_communityOf 14 = .ok (.istore 5, 2) := by decide +kernel
theorem dX1_communityOf_16 : decode cX1_communityOf 16 = .ok (.iload 5, 2) := by decide +kernel
theorem dX1_communityOf_18 : decode cX1_communityOf 18 = .ok (.ifCond .eq 74, 3) := by decide +kernel
theorem dX1_communityOf_21 : decode cX1_communityOf 21 = .ok (.iload 4, 2) := by decide +kernel
theorem dX1_communityOf_23 : decode cX1_communityOf 23 = .ok (.istore 6, 2) := by decide +kernel
theorem dX1_communityOf_25 : decode cX1_communityOf 25 = .ok (.iconst 0, 1) := by decide +kernel
theorem dX1_communityOf_26 : decode cX1_communityOf 26 = .ok (.istore 7, 2) := by decide +kernel
theorem dX1_communityOf_28 : decode cX1_communityOf 28 = .ok (.iload 7, 2) := by decide +kernel
theorem dX1_communityOf_30 : decode cX1_communityOf 30 = .ok (.aload_n 0, 1) := by decide +kernel
theorem dX1_communityOf_31 : decode cX1_communityOf 31 = .ok (.getfield 29, 3) := by decide +kernel
theorem dX1_communityOf_34 : decode cX1_communityOf 34 = .ok (.if_icmp .ge 37, 3) := by decide +kernel
theorem dX1_communityOf_37 : decode cX1_communityOf 37 = .ok (.iload 6, 2) := by decide +kernel
theorem dX1_communityOf_39 : decode cX1_communityOf 39 = .ok (.iload 4, 2) := by decide +kernel
theorem dX1_communityOf_41 : decode cX1_communityOf 41 = .ok (.iload 7, 2) := by decide +kernel
theorem dX1_communityOf_43 : decode cX1_communityOf 43 = .ok (.invokestatic 36, 3) := by decide +kernel
theorem dX1_communityOf_46 : decode cX1_communityOf 46 = .ok (.ifCond .eq 15, 3) := by decide +kernel
theorem dX1_communityOf_49 : decode cX1_communityOf 49 = .ok (.aload_n 0, 1) := by decide +kernel
theorem dX1_communityOf_50 : decode cX1_communityOf 50 = .ok (.getfield 7, 3) := by decide +kernel
theorem dX1_communityOf_53 : decode cX1_communityOf 53 = .ok (.iload 7, 2) := by decide +kernel
theorem dX1_communityOf_55 : decode cX1_communityOf 55 = .ok (.iaload, 1) := by decide +kernel
theorem dX1_communityOf_56 : decode cX1_communityOf 56 = .ok (.iload_n 3, 1) := by decide +kernel
theorem dX1_communityOf_57 : decode cX1_communityOf 57 = .ok (.iand, 1) := by decide +kernel
theorem dX1_communityOf_58 : decode cX1_communityOf 58 = .ok (.goto 4, 3) := by decide +kernel
theorem dX1_communityOf_61 : decode cX1_communityOf 61 = .ok (.iconst 0, 1) := by decide +kernel
theorem dX1_communityOf_62 : decode cX1_communityOf 62 = .ok (.ior, 1) := by decide +kernel
theorem dX1_communityOf_63 : decode cX1_communityOf 63 = .ok (.istore 6, 2) := by decide +kernel
theorem dX1_communityOf_65 : decode cX1_communityOf 65 = .ok (.iinc 7 1, 3) := by decide +kernel
theorem dX1_communityOf_68 : decode cX1_communityOf 68 = .ok (.goto (-40), 3) := by decide +kernel
theorem dX1_communityOf_71 : decode cX1_communityOf 71 = .ok (.iload 6, 2) := by decide +kernel
theorem dX1_communityOf_73 : decode cX1_communityOf 73 = .ok (.iload 4, 2) := by decide +kernel
theorem dX1_communityOf_75 : decode cX1_communityOf 75 = .ok (.if_icmp .eq 7, 3) := by decide +kernel
theorem dX1_communityOf_78 : decode cX1_communityOf 78 = .ok (.iconst 1, 1) := by decide +kernel
theorem dX1_communityOf_79 : decode cX1_communityOf 79 = .ok (.goto 4, 3) := by decide +kernel
theorem dX1_communityOf_82 : decode cX1_communityOf 82 = .ok (.iconst 0, 1) := by decide +kernel
theorem dX1_communityOf_83 : decode cX1_communityOf 83 = .ok (.istore 5, 2) := by decide +kernel
theorem dX1_communityOf_85 : decode cX1_communityOf 85 = .ok (.iload 6, 2) := by decide +kernel
theorem dX1_communityOf_87 : decode cX1_communityOf 87 = .ok (.istore 4, 2) := by decide +kernel
theorem dX1_communityOf_89 : decode cX1_communityOf 89 = .ok (.goto (-73), 3) := by decide +kernel
theorem dX1_communityOf_92 : decode cX1_communityOf 92 = .ok (.iload 4, 2) := by decide +kernel
theorem dX1_communityOf_94 : decode cX1_communityOf 94 = .ok (.ireturn, 1) := by decide +kernel
set_option maxRecDepth 20000 in
theorem ggX1_community_X1_isNode : GoodIn wsX1_community wsX1_isNode := goodIn_r _ [5, 6, 31, 32, 33, 34, 35, 36, 37, 38, 39, 40] (by decide +kernel) (by decide +kernel)
set_option maxRecDepth 20000 in
theorem gX1_community_X1_isNode : GoodIn wsX1_community (wsV RX1 57 RX1 yX1_isNode wsX1_isNode) := goodIn_app (goodIn_of _ (by decide +kernel)) ggX1_community_X1_isNode
set_option maxRecDepth 20000 in
theorem ggX1_community_X1_goesWell : GoodIn wsX1_community wsX1_goesWell := goodIn_r _ [10, 11, 31, 32, 33, 34, 35, 36, 37, 38, 39, 40] (by decide +kernel) (by decide +kernel)
set_option maxRecDepth 20000 in
theorem gX1_community_X1_goesWell : GoodIn wsX1_community (wsV RX1 47 RX1 yX1_goesWell wsX1_goesWell) := goodIn_app (goodIn_of _ (by decide +kernel)) ggX1_community_X1_goesWell
set_option maxRecDepth 20000 in
theorem ggX1_community_X1_communityOf : GoodIn wsX1_community wsX1_communityOf := goodIn_r _ [15, 6, 16, 17, 18, 19, 4, 20, 21, 22, 23, 24, 25, 26, 27, 28, 29, 30, 31, 32, 33, 34, 35, 36, 37, 38, 39, 40] (by decide +kernel) (by decide +kernel)
set_option maxRecDepth 20000 in
theorem gX1_community_X1_communityOf : GoodIn wsX1_community (wsV RX1 70 RX1 yX1_communityOf wsX1_communityOf) := goodIn_app (goodIn_of _ (by decide +kernel)) ggX1_community_X1_communityOf
set_option maxRecDepth 20000 in
theorem ggX1_community_X1_sizeOf : GoodIn wsX1_community wsX1_sizeOf := goodIn_r _ [30] (by decide +kernel) (by decide +kernel)
set_option maxRecDepth 20000 in
theorem gX1_community_X1_sizeOf : GoodIn wsX1_community (va_wsS RX1 40 yX1_sizeOf wsX1_sizeOf) := goodIn_app (goodIn_of _ (by decide +kernel)) ggX1_community_X1_sizeOf
theorem dX1_community_0 : decode cX1_community 0 = .ok (.aload_n 0, 1) := by decide +kernel
theorem dX1_community_1 : decode cX1_community 1 = .ok (.aload_n 0, 1) := by decide +kernel
theorem dX1_community_2 : decode cX1_community 2 = .ok (.iload_n 1, 1) := by decide +kernel
theorem dX1_community_3 : decode cX1_community 3 = .ok (.invokevirtual 57, 3) := by decide +kernel
theorem dX1_community_6 : decode cX1_community 6 = .ok (.ifCond .ne 7, 3) := by decide +kernel
theorem dX1_community_9 : decode cX1_community 9 = .ok (.iconst 1, 1) := by decide +kernel
theorem dX1_community_10 : decode cX1_community 10 = .ok (.goto 12, 3) := by decide +kernel
theorem dX1_community_13 : decode cX1_community 13 = .ok (.iload_n 2, 1) := by decide +kernel
theorem dX1_community_14 : decode cX1_community 14 = .ok (.ifCond .ge 7, 3) := by decide +kernel
theorem dX1_community_17 : decode cX1_community 17 = .ok (.iconst 2, 1) := by decide +kernel
theorem dX1_community_18 : decode cX1_community 18 = .ok (.goto 4, 3) := by decide +kernel
theorem dX1_community_21 : decode cX1_community 21 = .ok (.iconst 0, 1) := by decide +kernel
theorem dX1_community_22 : decode cX1_community 22 = .ok (.invokevirtual 47, 3) := by decide +kernel
theorem dX1_community_25 : decode cX1_community 25 = .ok (.ifCond .eq 15, 3) := by decide +kernel
theorem dX1_community_28 : decode cX1_community 28 = .ok (.aload_n 0, 1) := by decide +kernel
theorem dX1_community_29 : decode cX1_community 29 = .ok (.iload_n 1, 1) := by decide +kernel
theorem dX1_community_30 : decode cX1_community 30 = .ok (.iload_n 2, 1) := by decide +kernel
theorem dX1_community_31 : decode cX1_community 31 = .ok (.invokevirtual 70, 3) := by decide +kernel
theorem dX1_community_34 : decode cX1_community 34 = .ok (.invokestatic 40, 3) := by decide +kernel
theorem dX1_community_37 : decode cX1_community 37 = .ok (.goto 4, 3) := by decide +kernel
theorem dX1_community_40 : decode cX1_community 40 = .ok (.iconst 0, 1) := by decide +kernel
theorem dX1_community_41 : decode cX1_community 41 = .ok (.ireturn, 1) := by decide +kernel
set_option maxRecDepth 20000 in
theorem ggX1_isLowest_X1_has : GoodIn wsX1_isLowest wsX1_has := goodIn_r _ [4] (by decide +kernel) (by decide +kernel)
set_option maxRecDepth 20000 in
theorem gX1_isLowest_X1_has : GoodIn wsX1_isLowest (va_wsS RX1 36 yX1_has wsX1_has) := goodIn_app (goodIn_of _ (by decide +kernel)) ggX1_isLowest_X1_has
theorem dX1_isLowest_0 : decode cX1_isLowest 0 = .ok (.iload_n 1, 1) := by decide +kernel
theorem dX1_isLowest_1 : decode cX1_isLowest 1 = .ok (.iload_n 2, 1) := by decide +kernel
theorem dX1_isLowest_2 : decode cX1_isLowest 2 = .ok (.invokestatic 36, 3) := by decide +kernel
theorem dX1_isLowest_5 : decode cX1_isLowest 5 = .ok (.ifCond .eq 17, 3) := by decide +kernel
theorem dX1_isLowest_8 : decode cX1_isLowest 8 = .ok (.iload_n 1, 1) := by decide +kernel
theorem dX1_isLowest_9 : decode cX1_isLowest 9 = .ok (.iconst 1, 1) := by decide +kernel
theorem dX1_isLowest_10 : decode cX1_isLowest 10 = .ok (.iload_n 2, 1) := by decide +kernel
theorem dX1_isLowest_11 : decode cX1_isLowest 11 = .ok (.ishl, 1) := by decide +kernel
theorem dX1_isLowest_12 : decode cX1_isLowest 12 = .ok (.iconst 1, 1) := by decide +kernel
theorem dX1_isLowest_13 : decode cX1_isLowest 13 = .ok (.isub, 1) := by decide +kernel
theorem dX1_isLowest_14 : decode cX1_isLowest 14 = .ok (.iand, 1) := by decide +kernel
theorem dX1_isLowest_15 : decode cX1_isLowest 15 = .ok (.ifCond .ne 7, 3) := by decide +kernel
theorem dX1_isLowest_18 : decode cX1_isLowest 18 = .ok (.iconst 1, 1) := by decide +kernel
theorem dX1_isLowest_19 : decode cX1_isLowest 19 = .ok (.goto 4, 3) := by decide +kernel
theorem dX1_isLowest_22 : decode cX1_isLowest 22 = .ok (.iconst 0, 1) := by decide +kernel
theorem dX1_isLowest_23 : decode cX1_isLowest 23 = .ok (.ireturn, 1) := by decide +kernel
set_option maxRecDepth 20000 in
theorem ggX1_communities_X1_goesWell : GoodIn wsX1_communities wsX1_goesWell := goodIn_r _ [6, 7, 31, 32, 33, 34, 35, 36, 37, 38, 39, 40] (by decide +kernel) (by decide +kernel)
set_option maxRecDepth 20000 in
theorem gX1_communities_X1_goesWell : GoodIn wsX1_communities (wsV RX1 47 RX1 yX1_goesWell wsX1_goesWell) := goodIn_app (goodIn_of _ (by decide +kernel)) ggX1_communities_X1_goesWell
set_option maxRecDepth 20000 in
theorem ggX1_communities_X1_communityOf : GoodIn wsX1_communities wsX1_communityOf := goodIn_r _ [11, 1, 12, 13, 14, 15, 5, 16, 17, 18, 19, 20, 21, 22, 23, 24, 25, 26, 31, 32, 33, 34, 35, 36, 37, 38, 39, 40] (by decide +kernel) (by decide +kernel)
set_option maxRecDepth 20000 in
theorem gX1_communities_X1_communityOf : GoodIn wsX1_communities (wsV RX1 70 RX1 yX1_communityOf wsX1_communityOf) := goodIn_app (goodIn_of _ (by decide +kernel)) ggX1_communities_X1_communityOf
set_option maxRecDepth 20000 in
theorem ggX1_communities_X1_isLowest : GoodIn wsX1_communities wsX1_isLowest := goodIn_r _ [30, 21, 22, 5, 23] (by decide +kernel) (by decide +kernel)
set_option maxRecDepth 20000 in
theorem gX1_communities_X1_isLowest : GoodIn wsX1_communities (wsV RX1 73 RX1 yX1_isLowest wsX1_isLowest) := goodIn_app (goodIn_of _ (by decide +kernel)) ggX1_communities_X1_isLowest
theorem dX1_communities_0 : decode cX1_communities 0 = .ok (.aload_n 0, 1) := by decide +kernel
theorem dX1_communities_1 : decode cX1_communities 1 = .ok (.iload_n 1, 1) := by decide +kernel
theorem dX1_communities_2 : decode cX1_communities 2 = .ok (.ifCond .ge 7, 3) := by decide +kernel
theorem dX1_communities_5 : decode cX1_communities 5 = .ok (.iconst 1, 1) := by decide +kernel
theorem dX1_communities_6 : decode cX1_communities 6 = .ok (.goto 4, 3) := by decide +kernel
theorem dX1_communities_9 : decode cX1_communities 9 = .ok (.iconst 0, 1) := by decide +kernel
theorem dX1_communities_10 : decode cX1_communities 10 = .ok (.invokevirtual 47, 3) := by decide +kernel
theorem dX1_communities_13 : decode cX1_communities 13 = .ok (.ifCond .ne 5, 3) := by decide +kernel
theorem dX1_communities_16 : decode cX1_communities 16 = .ok (.iconst 0, 1) := by decide +kernel
theorem dX1_communities_17 : decode cX1_communities 17 = .ok (.ireturn, 1) := by decide +kernel
theorem dX1_communities_18 : decode cX1_communities 18 = .ok (.iconst 0, 1) := by decide +kernel
theorem dX1_communities_19 : decode cX1_communities 19 = .ok (.istore_n 2, 1) := by decide +kernel
theorem dX1_communities_20 : decode cX1_communities 20 = .ok (.iconst 0, 1) := by decide +kernel
theorem dX1_communities_21 : decode cX1_communities 21 = .ok (.istore_n 3, 1) := by decide +kernel
theorem dX1_communities_22 : decode cX1_communities 22 = .ok (.iload_n 3, 1) := by decide +kernel
theorem dX1_communities_23 : decode cX1_communities 23 = .ok (.aload_n 0, 1) := by decide +kernel
theorem dX1_communities_24 : decode cX1_communities 24 = .ok (.getfield 29, 3) := by decide +kernel
theorem dX1_communities_27 : decode cX1_communities 27 = .ok (.if_icmp .ge 31, 3) := by decide +kernel
theorem dX1_communities_30 : decode cX1_communities 30 = .ok (.iload_n 2, 1) := by decide +kernel
theorem dX1_communities_31 : decode cX1_communities 31 = .ok (.aload_n 0, 1) := by decide +kernel
theorem dX1_communities_32 : decode cX1_communities 32 = .ok (.aload_n 0, 1) := by decide +kernel
theorem dX1_communities_33 : decode cX1_communities 33 = .ok (.iload_n 3, 1) := by decide +kernel
theorem dX1_communities_34 : decode cX1_communities 34 = .ok (.iload_n 1, 1) := by decide +kernel
theorem dX1_communities_35 : decode cX1_communities 35 = .ok (.invokevirtual 70, 3) := by decide +kernel
theorem dX1_communities_38 : decode cX1_communities 38 = .ok (.iload_n 3, 1) := by decide +kernel
theorem dX1_communities_39 : decode cX1_communities 39 = .ok (.invokevirtual 73, 3) := by decide +kernel
theorem dX1_communities_42 : decode cX1_communities 42 = .ok (.ifCond .eq 7, 3) := by decide +kernel
theorem dX1_communities_45 : decode cX1_communities 45 = .ok (.iconst 1, 1) := by decide +kernel
theorem dX1_communities_46 : decode cX1_communities 46 = .ok (.goto 4, 3) := by decide +kernel
theorem dX1_communities_49 : decode cX1_communities 49 = .ok (.iconst 0, 1) := by decide +kernel
theorem dX1_communities_50 : decode cX1_communities 50 = .ok (.iadd, 1) := by decide +kernel
theorem dX1_communities_51 : decode cX1_communities 51 = .ok (.istore_n 2, 1) := by decide +kernel
theorem dX1_communities_52 : decode cX1_communities 52 = .ok (.iinc 3 1, 3) := by decide +kernel
theorem dX1_communities_55 : decode cX1_communities 55 = .ok (.goto (-33), 3) := by decide +kernel
theorem dX1_communities_58 : decode cX1_communities 58 = .ok (.iload_n 2, 1) := by decide +kernel
theorem dX1_communities_59 : decode cX1_communities 59 = .ok (.ireturn, 1) := by decide +kernel
set_option maxRecDepth 20000 in
theorem ggX1_together_X1_isNode : GoodIn wsX1_together wsX1_isNode := goodIn_r _ [5, 6, 31, 32, 33, 34, 35, 36, 37, 38, 39, 40] (by decide +kernel) (by decide +kernel)
set_option maxRecDepth 20000 in
theorem gX1_together_X1_isNode : GoodIn wsX1_together (wsV RX1 57 RX1 yX1_isNode wsX1_isNode) := goodIn_app (goodIn_of _ (by decide +kernel)) ggX1_together_X1_isNode
set_option maxRecDepth 20000 in
theorem ggX1_together_X1_communityOf : GoodIn wsX1_together wsX1_communityOf := goodIn_r _ [10, 6, 11, 12, 13, 14, 4, 15, 16, 17, 18, 19, 20, 21, 22, 23, 24, 25, 31, 32, 33, 34, 35, 36, 37, 38, 39, 40] (by decide +kernel) (by decide +kernel)
set_option maxRecDepth 20000 in
theorem gX1_together_X1_communityOf : GoodIn wsX1_together (wsV RX1 70 RX1 yX1_communityOf wsX1_communityOf) := goodIn_app (goodIn_of _ (by decide +kernel)) ggX1_together_X1_communityOf
set_option maxRecDepth 20000 in
theorem ggX1_together_X1_has : GoodIn wsX1_together wsX1_has := goodIn_r _ [22] (by decide +kernel) (by decide +kernel)
set_option maxRecDepth 20000 in
theorem gX1_together_X1_has : GoodIn wsX1_together (va_wsS RX1 36 yX1_has wsX1_has) := goodIn_app (goodIn_of _ (by decide +kernel)) ggX1_together_X1_has
set_option maxRecDepth 20000 in
theorem ggX1_together_X1_goesWell : GoodIn wsX1_together wsX1_goesWell := goodIn_r _ [29, 30, 31, 32, 33, 34, 35, 36, 37, 38, 39, 40] (by decide +kernel) (by decide +kernel)
set_option maxRecDepth 20000 in
theorem gX1_together_X1_goesWell : GoodIn wsX1_together (wsV RX1 47 RX1 yX1_goesWell wsX1_goesWell) := goodIn_app (goodIn_of _ (by decide +kernel)) ggX1_together_X1_goesWell
theorem dX1_together_0 : decode cX1_together 0 = .ok (.iconst (-1), 1) := by decide +kernel
theorem dX1_together_1 : decode cX1_together 1 = .ok (.istore_n 3, 1) := by decide +kernel
theorem dX1_together_2 : decode cX1_together 2 = .ok (.iconst 0, 1) := by decide +kernel
theorem dX1_together_3 : decode cX1_together 3 = .ok (.istore 4, 2) := by decide +kernel
theorem dX1_together_5 : decode cX1_together 5 = .ok (.iload 4, 2) := by decide +kernel
theorem dX1_together_7 : decode cX1_together 7 = .ok (.bipush 20, 2) := by decide +kernel
theorem dX1_together_9 : decode cX1_together 9 = .ok (.if_icmp .ge 46, 3) := by decide +kernel
theorem dX1_together_12 : decode cX1_together 12 = .ok (.aload_n 0, 1) := by decide +kernel
theorem dX1_together_13 : decode cX1_together 13 = .ok (.iload_n 1, 1) := by decide +kernel
theorem dX1_together_14 : decode cX1_together 14 = .ok (.invokevirtual 57, 3) := by decide +kernel
theorem dX1_together_17 : decode cX1_together 17 = .ok (.ifCond .eq 38, 3) := by decide +kernel
theorem dX1_together_20 : decode cX1_together 20 = .ok (.aload_n 0, 1) := by decide +kernel
theorem dX1_together_21 : decode cX1_together 21 = .ok (.iload_n 2, 1) := by decide +kernel
theorem dX1_together_22 : decode cX1_together 22 = .ok (.invokevirtual 57, 3) := by decide +kernel
theorem dX1_together_25 : decode cX1_together 25 = .ok (.ifCond .eq 30, 3) := by decide +kernel
theorem dX1_together_28 : decode cX1_together 28 = .ok (.aload_n 0, 1) := by decide +kernel
theorem dX1_together_29 : decode cX1_together 29 = .ok (.iload_n 1, 1) := by decide +kernel
theorem dX1_together_30 : decode cX1_together 30 = .ok (.iload 4, 2) := by decide +kernel
theorem dX1_together_32 : decode cX1_together 32 = .ok (.invokevirtual 70, 3) := by decide +kernel
theorem dX1_together_35 : decode cX1_together 35 = .ok (.iload_n 2, 1) := by decide +kernel
theorem dX1_together_36 : decode cX1_together 36 = .ok (.invokestatic 36, 3) := by decide +kernel
theorem dX1_together_39 : decode cX1_together 39 = .ok (.ifCond .eq 8, 3) := by decide +kernel
theorem dX1_together_42 : decode cX1_together 42 = .ok (.iload 4, 2) := by decide +kernel
theorem dX1_together_44 : decode cX1_together 44 = .ok (.goto 4, 3) := by decide +kernel
theorem dX1_together_47 : decode cX1_together 47 = .ok (.iload_n 3, 1) := by decide +kernel
theorem dX1_together_48 : decode cX1_together 48 = .ok (.istore_n 3, 1) := by decide +kernel
theorem dX1_together_49 : decode cX1_together 49 = .ok (.iinc 4 1, 3) := by decide +kernel
theorem dX1_together_52 : decode cX1_together 52 = .ok (.goto (-47), 3) := by decide +kernel
theorem dX1_together_55 : decode cX1_together 55 = .ok (.aload_n 0, 1) := by decide +kernel
theorem dX1_together_56 : decode cX1_together 56 = .ok (.aload_n 0, 1) := by decide +kernel
theorem dX1_together_57 : decode cX1_together 57 = .ok (.iload_n 1, 1) := by decide +kernel
theorem dX1_together_58 : decode cX1_together 58 = .ok (.invokevirtual 57, 3) := by decide +kernel
theorem dX1_together_61 : decode cX1_together 61 = .ok (.ifCond .eq 11, 3) := by decide +kernel
theorem dX1_together_64 : decode cX1_together 64 = .ok (.aload_n 0, 1) := by decide +kernel
theorem dX1_together_65 : decode cX1_together 65 = .ok (.iload_n 2, 1) := by decide +kernel
theorem dX1_together_66 : decode cX1_together 66 = .ok (.invokevirtual 57, 3) := by decide +kernel
theorem dX1_together_69 : decode cX1_together 69 = .ok (.ifCond .ne 7, 3) := by decide +kernel
theorem dX1_together_72 : decode cX1_together 72 = .ok (.iconst 1, 1) := by decide +kernel
theorem dX1_together_73 : decode cX1_together 73 = .ok (.goto 12, 3) := by decide +kernel
theorem dX1_together_76 : decode cX1_together 76 = .ok (.iload_n 3, 1) := by decide +kernel
theorem dX1_together_77 : decode cX1_together 77 = .ok (.ifCond .ge 7, 3) := by decide +kernel
theorem dX1_together_80 : decode cX1_together 80 = .ok (.iconst 2, 1) := by decide +kernel
theorem dX1_together_81 : decode cX1_together 81 = .ok (.goto 4, 3) := by decide +kernel
theorem dX1_together_84 : decode cX1_together 84 = .ok (.iconst 0, 1) := by decide +kernel
theorem dX1_together_85 : decode cX1_together 85 = .ok (.invokevirtual 47, 3) := by decide +kernel
theorem dX1_together_88 : decode cX1_together 88 = .ok (.ifCond .eq 7, 3) := by decide +kernel
theorem dX1_together_91 : decode cX1_together 91 = .ok (.iload_n 3, 1) := by decide +kernel
theorem dX1_together_92 : decode cX1_together 92 = .ok (.goto 4, 3) := by decide +kernel
theorem dX1_together_95 : decode cX1_together 95 = .ok (.iconst 0, 1) := by decide +kernel
theorem dX1_together_96 : decode cX1_together 96 = .ok (.ireturn, 1) := by decide +kernel
set_option maxRecDepth 20000 in
theorem ggX1_hierarchy_X1_communityOf : GoodIn wsX1_hierarchy wsX1_communityOf := goodIn_r _ [7, 2, 8, 9, 10, 11, 6, 12, 13, 14, 15, 16, 17, 18, 19, 20, 21, 22, 27, 28, 29, 30, 31, 32, 33, 34, 35, 36] (by decide +kernel) (by decide +kernel)
set_option maxRecDepth 20000 in
theorem gX1_hierarchy_X1_communityOf : GoodIn wsX1_hierarchy (wsV RX1 70 RX1 yX1_communityOf wsX1_communityOf) := goodIn_app (goodIn_of _ (by decide +kernel)) ggX1_hierarchy_X1_communityOf
set_option maxRecDepth 20000 in
theorem ggX1_hierarchy_X1_isLowest : GoodIn wsX1_hierarchy wsX1_isLowest := goodIn_r _ [26, 17, 18, 6, 19] (by decide +kernel) (by decide +kernel)
set_option maxRecDepth 20000 in
theorem gX1_hierarchy_X1_isLowest : GoodIn wsX1_hierarchy (wsV RX1 73 RX1 yX1_isLowest wsX1_isLowest) := goodIn_app (goodIn_of _ (by decide +kernel)) ggX1_hierarchy_X1_isLowest
theorem dX1_hierarchy_0 : decode cX1_hierarchy 0 = .ok (.aload_n 0, 1) := by decide +kernel
theorem dX1_hierarchy_1 : decode cX1_hierarchy 1 = .ok (.iconst 0, 1) := by decide +kernel
theorem dX1_hierarchy_2 : decode cX1_hierarchy 2 = .ok (.putfield 25, 3) := by decide +kernel
theorem dX1_hierarchy_5 : decode cX1_hierarchy 5 = .ok (.iconst 0, 1) := by decide +kernel
theorem dX1_hierarchy_6 : decode cX1_hierarchy 6 = .ok (.istore_n 1, 1) := by decide +kernel
theorem dX1_hierarchy_7 : decode cX1_hierarchy 7 = .ok (.iconst 0, 1) := by decide +kernel
theorem dX1_hierarchy_8 : decode cX1_hierarchy 8 = .ok (.istore_n 2, 1) := by decide +kernel
theorem dX1_hierarchy_9 : decode cX1_hierarchy 9 = .ok (.iload_n 2, 1) := by decide +kernel
theorem dX1_hierarchy_10 : decode cX1_hierarchy 10 = .ok (.bipush 20, 2) := by decide +kernel
theorem dX1_hierarchy_12 : decode cX1_hierarchy 12 = .ok (.if_icmp .ge 64, 3) := by decide +kernel
theorem dX1_hierarchy_15 : decode cX1_hierarchy 15 = .ok (.iconst 0, 1) := by decide +kernel
theorem dX1_hierarchy_16 : decode cX1_hierarchy 16 = .ok (.istore_n 3, 1) := by decide +kernel
theorem dX1_hierarchy_17 : decode cX1_hierarchy 17 = .ok (.iload_n 3, 1) := by decide +kernel
theorem dX1_hierarchy_18 : decode cX1_hierarchy 18 = .ok (.aload_n 0, 1) := by decide +kernel
theorem dX1_hierarchy_19 : decode cX1_hierarchy 19 = .ok (.getfield 29, 3) := by decide +kernel
theorem dX1_hierarchy_22 : decode cX1_hierarchy 22 = .ok (.if_icmp .ge 48, 3) := by decide +kernel
theorem dX1_hierarchy_25 : decode cX1_hierarchy 25 = .ok (.aload_n 0, 1) := by decide +kernel
theorem dX1_hierarchy_26 : decode cX1_hierarchy 26 = .ok (.iload_n 3, 1) := by decide +kernel
theorem dX1_hierarchy_27 : decode cX1_hierarchy 27 = .ok (.iload_n 2, 1) := by decide +kernel
theorem dX1_hierarchy_28 : decode cX1_hierarchy 28 = .ok (.invokevirtual 70, 3) := by decide +kernel
theorem dX1_hierarchy_31 : decode cX1_hierarchy 31 = .ok (.istore 4, 2) := by decide +kernel
theorem dX1_hierarchy_33 : decode cX1_hierarchy 33 = .ok (.iload_n 1, 1) := by decide +kernel
theorem dX1_hierarchy_34 : decode cX1_hierarchy 34 = .ok (.aload_n 0, 1) := by decide +kernel
theorem dX1_hierarchy_35 : decode cX1_hierarchy 35 = .ok (.iload 4, 2) := by decide +kernel
theorem dX1_hierarchy_37 : decode cX1_hierarchy 37 = .ok (.iload_n 3, 1) := by decide +kernel
theorem dX1_hierarchy_38 : decode cX1_hierarchy 38 = .ok (.invokevirtual 73, 3) := by decide +kernel
theorem dX1_hierarchy_41 : decode cX1_hierarchy 41 = .ok (.ifCond .eq 20, 3) := by decide +kernel
theorem dX1_hierarchy_44 : decode cX1_hierarchy 44 = .ok (.aload_n 0, 1) := by decide +kernel
theorem dX1_hierarchy_45 : decode cX1_hierarchy 45 = .ok (.iload_n 3, 1) := by decide +kernel
theorem dX1_hierarchy_46 : decode cX1_hierarchy 46 = .ok (.iload_n 2, 1) := by decide +kernel
theorem dX1_hierarchy_47 : decode cX1_hierarchy 47 = .ok (.iconst 1, 1) := by decide +kernel
theorem dX1_hierarchy_48 : decode cX1_hierarchy 48 = .ok (.iadd, 1) := by decide +kernel
theorem dX1_hierarchy_49 : decode cX1_hierarchy 49 = .ok (.invokevirtual 70, 3) := by decide +kernel
theorem dX1_hierarchy_52 : decode cX1_hierarchy 52 = .ok (.iload 4, 2) := by decide +kernel
theorem dX1_hierarchy_54 : decode cX1_hierarchy 54 = .ok (.if_icmp .eq 7, 3) := by decide +kernel
theorem dX1_hierarchy_57 : decode cX1_hierarchy 57 = .ok (.iconst 1, 1) := by decide +kernel
theorem dX1_hierarchy_58 : decode cX1_hierarchy 58 = .ok (.goto 4, 3) := by decide +kernel
theorem dX1_hierarchy_61 : decode cX1_hierarchy 61 = .ok (.iconst 0, 1) := by decide +kernel
theorem dX1_hierarchy_62 : decode cX1_hierarchy 62 = .ok (.iadd, 1) := by decide +kernel
theorem dX1_hierarchy_63 : decode cX1_hierarchy 63 = .ok (.istore_n 1, 1) := by decide +kernel
theorem dX1_hierarchy_64 : decode cX1_hierarchy 64 = .ok (.iinc 3 1, 3) := by decide +kernel
theorem dX1_hierarchy_67 : decode cX1_hierarchy 67 = .ok (.goto (-50), 3) := by decide +kernel
theorem dX1_hierarchy_70 : decode cX1_hierarchy 70 = .ok (.iinc 2 1, 3) := by decide +kernel
theorem dX1_hierarchy_73 : decode cX1_hierarchy 73 = .ok (.goto (-64), 3) := by decide +kernel
theorem dX1_hierarchy_76 : decode cX1_hierarchy 76 = .ok (.iload_n 1, 1) := by decide +kernel
theorem dX1_hierarchy_77 : decode cX1_hierarchy 77 = .ok (.ireturn, 1) := by decide +kernel
set_option maxRecDepth 20000 in
theorem ggX1_peel_X1_all : GoodIn wsX1_peel wsX1_all := goodIn_r _ [10, 3, 21, 22, 23, 24, 25, 26, 27, 28, 29, 30] (by decide +kernel) (by decide +kernel)
set_option maxRecDepth 20000 in
theorem gX1_peel_X1_all : GoodIn wsX1_peel (wsV RX1 32 RX1 yX1_all wsX1_all) := goodIn_app (goodIn_of _ (by decide +kernel)) ggX1_peel_X1_all
set_option maxRecDepth 20000 in
theorem ggX1_peel_X1_edgesOf : GoodIn wsX1_peel wsX1_edgesOf := goodIn_r _ [14, 3, 4, 15, 16, 9, 17, 18, 19, 20, 21, 22, 23, 24, 25, 26, 27, 28, 29, 30] (by decide +kernel) (by decide +kernel)
set_option maxRecDepth 20000 in
theorem gX1_peel_X1_edgesOf : GoodIn wsX1_peel (wsV RX1 67 RX1 yX1_edgesOf wsX1_edgesOf) := goodIn_app (goodIn_of _ (by decide +kernel)) ggX1_peel_X1_edgesOf
set_option maxRecDepth 20000 in
theorem ggX1_peel_X1_sizeOf : GoodIn wsX1_peel wsX1_sizeOf := goodIn_r _ [20] (by decide +kernel) (by decide +kernel)
set_option maxRecDepth 20000 in
theorem gX1_peel_X1_sizeOf : GoodIn wsX1_peel (va_wsS RX1 40 yX1_sizeOf wsX1_sizeOf) := goodIn_app (goodIn_of _ (by decide +kernel)) ggX1_peel_X1_sizeOf
set_option maxRecDepth 20000 in
theorem ggX1_peel_X1_has : GoodIn wsX1_peel wsX1_has := goodIn_r _ [17] (by decide +kernel) (by decide +kernel)
set_option maxRecDepth 20000 in
theorem gX1_peel_X1_has : GoodIn wsX1_peel (va_wsS RX1 36 yX1_has wsX1_has) := goodIn_app (goodIn_of _ (by decide +kernel)) ggX1_peel_X1_has
theorem dX1_peel_0 : decode cX1_peel 0 = .ok (.aload_n 0, 1) := by decide +kernel
theorem dX1_peel_1 : decode cX1_peel 1 = .ok (.invokevirtual 32, 3) := by decide +kernel
theorem dX1_peel_4 : decode cX1_peel 4 = .ok (.istore_n 1, 1) := by decide +kernel
theorem dX1_peel_5 : decode cX1_peel 5 = .ok (.aload_n 0, 1) := by decide +kernel
theorem dX1_peel_6 : decode cX1_peel 6 = .ok (.iload_n 1, 1) := by decide +kernel
theorem dX1_peel_7 : decode cX1_peel 7 = .ok (.putfield 76, 3) := by decide +kernel
theorem dX1_peel_10 : decode cX1_peel 10 = .ok (.aload_n 0, 1) := by decide +kernel
theorem dX1_peel_11 : decode cX1_peel 11 = .ok (.aload_n 0, 1) := by decide +kernel
theorem dX1_peel_12 : decode cX1_peel 12 = .ok (.iload_n 1, 1) := by decide +kernel
theorem dX1_peel_13 : decode cX1_peel 13 = .ok (.invokevirtual 67, 3) := by decide +kernel
theorem dX1_peel_16 : decode cX1_peel 16 = .ok (.putfield 79, 3) := by decide +kernel
theorem dX1_peel_19 : decode cX1_peel 19 = .ok (.iconst 0, 1) := by decide +kernel
theorem dX1_peel_20 : decode cX1_peel 20 = .ok (.istore_n 2, 1) := by decide +kernel
theorem dX1_peel_21 : decode cX1_peel 21 = .ok (.iload_n 2, 1) := by decide +kernel
theorem dX1_peel_22 : decode cX1_peel 22 = .ok (.aload_n 0, 1) := by decide +kernel
theorem dX1_peel_23 : decode cX1_peel 23 = .ok (.getfield 29, 3) := by decide +kernel
theorem dX1_peel_26 : decode cX1_peel 26 = .ok (.if_icmp .ge 146, 3) := by decide +kernel
theorem dX1_peel_29 : decode cX1_peel 29 = .ok (.aload_n 0, 1) := by decide +kernel
theorem dX1_peel_30 : decode cX1_peel 30 = .ok (.iload_n 1, 1) := by decide +kernel
theorem dX1_peel_31 : decode cX1_peel 31 = .ok (.invokevirtual 67, 3) := by decide +kernel
theorem dX1_peel_34 : decode cX1_peel 34 = .ok (.istore_n 3, 1) := by decide +kernel
theorem dX1_peel_35 : decode cX1_peel 35 = .ok (.iload_n 3, 1) := by decide +kernel
theorem dX1_peel_36 : decode cX1_peel 36 = .ok (.aload_n 0, 1) := by decide +kernel
theorem dX1_peel_37 : decode cX1_peel 37 = .ok (.getfield 76, 3) := by decide +kernel
theorem dX1_peel_40 : decode cX1_peel 40 = .ok (.invokestatic 40, 3) := by decide +kernel
theorem dX1_peel_43 : decode cX1_peel 43 = .ok (.imul, 1) := by decide +kernel
theorem dX1_peel_44 : decode cX1_peel 44 = .ok (.aload_n 0, 1) := by decide +kernel
theorem dX1_peel_45 : decode cX1_peel 45 = .ok (.getfield 79, 3) := by decide +kernel
theorem dX1_peel_48 : decode cX1_peel 48 = .ok (.iload_n 1, 1) := by decide +kernel
theorem dX1_peel_49 : decode cX1_peel 49 = .ok (.invokestatic 40, 3) := by decide +kernel
theorem dX1_peel_52 : decode cX1_peel 52 = .ok (.imul, 1) := by decide +kernel
theorem dX1_peel_53 : decode cX1_peel 53 = .ok (.if_icmp .le 13, 3) := by decide +kernel
theorem dX1_peel_56 : decode cX1_peel 56 = .ok (.aload_n 0, 1) := by decide +kernel
theorem dX1_peel_57 : decode cX1_peel 57 = .ok (.iload_n 1, 1) := by decide +kernel
theorem dX1_peel_58 : decode cX1_peel 58 = .ok (.putfield 76, 3) := by decide +kernel
theorem dX1_peel_61 : decode cX1_peel 61 = .ok (.aload_n 0, 1) := by decide +kernel
theorem dX1_peel_62 : decode cX1_peel 62 = .ok (.iload_n 3, 1) := by decide +kernel
theorem dX1_peel_63 : decode cX1_peel 63 = .ok (.putfield 79, 3) := by decide +kernel
theorem dX1_peel_66 : decode cX1_peel 66 = .ok (.iconst (-1), 1) := by decide +kernel
theorem dX1_peel_67 : decode cX1_peel 67 = .ok (.istore 4, 2) := by decide +kernel
theorem dX1_peel_69 : decode cX1_peel 69 = .ok (.iconst 0, 1) := by decide +kernel
theorem dX1_peel_70 : decode cX1_peel 70 = .ok (.istore 5, 2) := by decide +kernel
theorem dX1_peel_72 : decode cX1_peel 72 = .ok (.iload 5, 2) := by decide +kernel
theorem dX1_peel_74 : decode cX1_peel 74 = .ok (.aload_n 0, 1) := by decide +kernel
theorem dX1_peel_75 : decode cX1_peel 75 = .ok (.getfield 29, 3) := by decide +kernel
theorem dX1_peel_78 : decode cX1_peel 78 = .ok (.if_icmp .ge 71, 3) := by decide +kernel
theorem dX1_peel_81 : decode cX1_peel 81 = .ok (.iload_n 1, 1) := by decide +kernel
theorem dX1_peel_82 : decode cX1_peel 82 = .ok (.iload 5, 2) := by decide +kernel
theorem dX1_peel_84 : decode cX1_peel 84 = .ok (.invokestatic 36, 3) := by decide +kernel
theorem dX1_peel_87 : decode cX1_peel 87 = .ok (.ifCond .eq 39, 3) := by decide +kernel
theorem dX1_peel_90 : decode cX1_peel 90 = .ok (.iload 4, 2) := by decide +kernel
theorem dX1_peel_92 : decode cX1_peel 92 = .ok (.ifCond .lt 30, 3) := by decide +kernel
theorem dX1_peel_95 : decode cX1_peel 95 = .ok (.aload_n 0, 1) := by decide +kernel
theorem dX1_peel_96 : decode cX1_peel 96 = .ok (.getfield 7, 3) := by decide +kernel
theorem dX1_peel_99 : decode cX1_peel 99 = .ok (.iload 5, 2) := by decide +kernel
theorem dX1_peel_101 : decode cX1_peel 101 = .ok (.iaload, 1) := by decide +kernel
theorem dX1_peel_102 : decode cX1_peel 102 = .ok (.iload_n 1, 1) := by decide +kernel
theorem dX1_peel_103 : decode cX1_peel 103 = .ok (.iand, 1) := by decide +kernel
theorem dX1_peel_104 : decode cX1_peel 104 = .ok (.invokestatic 40, 3) := by decide +kernel
theorem dX1_peel_107 : decode cX1_peel 107 = .ok (.aload_n 0, 1) := by decide +kernel
theorem dX1_peel_108 : decode cX1_peel 108 = .ok (.getfield 7, 3) := by decide +kernel
theorem dX1_peel_111 : decode cX1_peel 111 = .ok (.iload 4, 2) := by decide +kernel
theorem dX1_peel_113 : decode cX1_peel 113 = .ok (.iaload, 1) := by decide +kernel
theorem dX1_peel_114 : decode cX1_peel 114 = .ok (.iload_n 1, 1) := by decide +kernel
theorem dX1_peel_115 : decode cX1_peel 115 = .ok (.iand, 1) := by decide +kernel
theorem dX1_peel_116 : decode cX1_peel 116 = .ok (.invokestatic 40, 3) := by decide +kernel
theorem dX1_peel_119 : decode cX1_peel 119 = .ok (.if_icmp .ge 7, 3) := by decide +kernel
theorem dX1_peel_122 : decode cX1_peel 122 = .ok (.iconst 1, 1) := by decide +kernel
theorem dX1_peel_123 : decode cX1_peel 123 = .ok (.goto 4, 3) := by decide +kernel
theorem dX1_peel_126 : decode cX1_peel 126 = .ok (.iconst 0, 1) := by decide +kernel
theorem dX1_peel_127 : decode cX1_peel 127 = .ok (.istore 6, 2) := by decide +kernel
theorem dX1_peel_129 : decode cX1_peel 129 = .ok (.iload 6, 2) := by decide +kernel
theorem dX1_peel_131 : decode cX1_peel 131 = .ok (.ifCond .eq 8, 3) := by decide +kernel
theorem dX1_peel_134 : decode cX1_peel 134 = .ok (.iload 5, 2) := by decide +kernel
theorem dX1_peel_136 : decode cX1_peel 136 = .ok (.goto 5, 3) := by decide +kernel
theorem dX1_peel_139 : decode cX1_peel 139 = .ok (.iload 4, 2) := by decide +kernel
theorem dX1_peel_141 : decode cX1_peel 141 = .ok (.istore 4, 2) := by decide +kernel
theorem dX1_peel_143 : decode cX1_peel 143 = .ok (.iinc 5 1, 3) := by decide +kernel
theorem dX1_peel_146 : decode cX1_peel 146 = .ok (.goto (-74), 3) := by decide +kernel
theorem dX1_peel_149 : decode cX1_peel 149 = .ok (.aload_n 0, 1) := by decide +kernel
theorem dX1_peel_150 : decode cX1_peel 150 = .ok (.getfield 22, 3) := by decide +kernel
theorem dX1_peel_153 : decode cX1_peel 153 = .ok (.iload_n 2, 1) := by decide +kernel
theorem dX1_peel_154 : decode cX1_peel 154 = .ok (.iload 4, 2) := by decide +kernel
theorem dX1_peel_156 : decode cX1_peel 156 = .ok (.iastore, 1) := by decide +kernel
theorem dX1_peel_157 : decode cX1_peel 157 = .ok (.iload_n 1, 1) := by decide +kernel
theorem dX1_peel_158 : decode cX1_peel 158 = .ok (.iconst 1, 1) := by decide +kernel
theorem dX1_peel_159 : decode cX1_peel 159 = .ok (.iload 4, 2) := by decide +kernel
theorem dX1_peel_161 : decode cX1_peel 161 = .ok (.ishl, 1) := by decide +kernel
theorem dX1_peel_162 : decode cX1_peel 162 = .ok (.iconst (-1), 1) := by decide +kernel
theorem dX1_peel_163 : decode cX1_peel 163 = .ok (.ixor, 1) := by decide +kernel
theorem dX1_peel_164 : decode cX1_peel 164 = .ok (.iand, 1) := by decide +kernel
theorem dX1_peel_165 : decode cX1_peel 165 = .ok (.istore_n 1, 1) := by decide +kernel
theorem dX1_peel_166 : decode cX1_peel 166 = .ok (.iinc 2 1, 3) := by decide +kernel
theorem dX1_peel_169 : decode cX1_peel 169 = .ok (.goto (-148), 3) := by decide +kernel
theorem dX1_peel_172 : decode cX1_peel 172 = .ok (.return_, 1) := by decide +kernel
set_option maxRecDepth 20000 in
theorem ggX1_peeled_X1_isNode : GoodIn wsX1_peeled wsX1_isNode := goodIn_r _ [6, 7, 34, 35, 36, 37, 38, 39, 40, 41, 42, 43] (by decide +kernel) (by decide +kernel)
set_option maxRecDepth 20000 in
theorem gX1_peeled_X1_isNode : GoodIn wsX1_peeled (wsV RX1 57 RX1 yX1_isNode wsX1_isNode) := goodIn_app (goodIn_of _ (by decide +kernel)) ggX1_peeled_X1_isNode
set_option maxRecDepth 20000 in
theorem ggX1_peeled_X1_goesWell : GoodIn wsX1_peeled wsX1_goesWell := goodIn_r _ [11, 12, 34, 35, 36, 37, 38, 39, 40, 41, 42, 43] (by decide +kernel) (by decide +kernel)
set_option maxRecDepth 20000 in
theorem gX1_peeled_X1_goesWell : GoodIn wsX1_peeled (wsV RX1 47 RX1 yX1_goesWell wsX1_goesWell) := goodIn_app (goodIn_of _ (by decide +kernel)) ggX1_peeled_X1_goesWell
set_option maxRecDepth 20000 in
theorem ggX1_peeled_X1_peel : GoodIn wsX1_peeled wsX1_peel := goodIn_r _ [16, 17, 18, 7, 19, 1, 20, 21, 22, 5, 23, 24, 25, 26, 27, 28, 29, 30, 31, 32, 33, 34, 35, 36, 37, 38, 39, 40, 41, 42, 43] (by decide +kernel) (by decide +kernel)
set_option maxRecDepth 20000 in
theorem gX1_peeled_X1_peel : GoodIn wsX1_peeled (wsV RX1 82 RX1 yX1_peel wsX1_peel) := goodIn_app (goodIn_of _ (by decide +kernel)) ggX1_peeled_X1_peel
theorem dX1_peeled_0 : decode cX1_peeled 0 = .ok (.aload_n 0, 1) := by decide +kernel
theorem dX1_peeled_1 : decode cX1_peeled 1 = .ok (.aload_n 0, 1) := by decide +kernel
theorem dX1_peeled_2 : decode cX1_peeled 2 = .ok (.iload_n 1, 1) := by decide +kernel
theorem dX1_peeled_3 : decode cX1_peeled 3 = .ok (.invokevirtual 57, 3) := by decide +kernel
theorem dX1_peeled_6 : decode cX1_peeled 6 = .ok (.ifCond .eq 7, 3) := by decide +kernel
theorem dX1_peeled_9 : decode cX1_peeled 9 = .ok (.iconst 0, 1) := by decide +kernel
theorem dX1_peeled_10 : decode cX1_peeled 10 = .ok (.goto 4, 3) := by decide +kernel
theorem dX1_peeled_13 : decode cX1_peeled 13 = .ok (.iconst 1, 1) := by decide +kernel
theorem dX1_peeled_14 : decode cX1_peeled 14 = .ok (.invokevirtual 47, 3) := by decide +kernel
theorem dX1_peeled_17 : decode cX1_peeled 17 = .ok (.ifCond .ne 5, 3) := by decide +kernel
theorem dX1_peeled_20 : decode cX1_peeled 20 = .ok (.iconst 0, 1) := by decide +kernel
theorem dX1_peeled_21 : decode cX1_peeled 21 = .ok (.ireturn, 1) := by decide +kernel
theorem dX1_peeled_22 : decode cX1_peeled 22 = .ok (.aload_n 0, 1) := by decide +kernel
theorem dX1_peeled_23 : decode cX1_peeled 23 = .ok (.invokevirtual 82, 3) := by decide +kernel
theorem dX1_peeled_26 : decode cX1_peeled 26 = .ok (.aload_n 0, 1) := by decide +kernel
theorem dX1_peeled_27 : decode cX1_peeled 27 = .ok (.getfield 22, 3) := by decide +kernel
theorem dX1_peeled_30 : decode cX1_peeled 30 = .ok (.iload_n 1, 1) := by decide +kernel
theorem dX1_peeled_31 : decode cX1_peeled 31 = .ok (.iaload, 1) := by decide +kernel
theorem dX1_peeled_32 : decode cX1_peeled 32 = .ok (.ireturn, 1) := by decide +kernel
set_option maxRecDepth 20000 in
theorem ggX1_denseSize_X1_peel : GoodIn wsX1_denseSize wsX1_peel := goodIn_r _ [7, 2, 8, 9, 10, 11, 12, 13, 14, 6, 15, 16, 17, 18, 19, 20, 21, 22, 23, 24, 25, 26, 27, 28, 29, 30, 31, 32, 33, 34, 35] (by decide +kernel) (by decide +kernel)
set_option maxRecDepth 20000 in
theorem gX1_denseSize_X1_peel : GoodIn wsX1_denseSize (wsV RX1 82 RX1 yX1_peel wsX1_peel) := goodIn_app (goodIn_of _ (by decide +kernel)) ggX1_denseSize_X1_peel
set_option maxRecDepth 20000 in
theorem ggX1_denseSize_X1_sizeOf : GoodIn wsX1_denseSize wsX1_sizeOf := goodIn_r _ [25] (by decide +kernel) (by decide +kernel)
set_option maxRecDepth 20000 in
theorem gX1_denseSize_X1_sizeOf : GoodIn wsX1_denseSize (va_wsS RX1 40 yX1_sizeOf wsX1_sizeOf) := goodIn_app (goodIn_of _ (by decide +kernel)) ggX1_denseSize_X1_sizeOf
theorem dX1_denseSize_0 : decode cX1_denseSize 0 = .ok (.aload_n 0, 1) := by decide +kernel
theorem dX1_denseSize_1 : decode cX1_denseSize 1 = .ok (.iconst 0, 1) := by decide +kernel
theorem dX1_denseSize_2 : decode cX1_denseSize 2 = .ok (.putfield 25, 3) := by decide +kernel
theorem dX1_denseSize_5 : decode cX1_denseSize 5 = .ok (.aload_n 0, 1) := by decide +kernel
theorem dX1_denseSize_6 : decode cX1_denseSize 6 = .ok (.invokevirtual 82, 3) := by decide +kernel
theorem dX1_denseSize_9 : decode cX1_denseSize 9 = .ok (.aload_n 0, 1) := by decide +kernel
theorem dX1_denseSize_10 : decode cX1_denseSize 10 = .ok (.getfield 76, 3) := by decide +kernel
theorem dX1_denseSize_13 : decode cX1_denseSize 13 = .ok (.invokestatic 40, 3) := by decide +kernel
theorem dX1_denseSize_16 : decode cX1_denseSize 16 = .ok (.ireturn, 1) := by decide +kernel
set_option maxRecDepth 20000 in
theorem ggX1_isDense_X1_isNode : GoodIn wsX1_isDense wsX1_isNode := goodIn_r _ [6, 7, 34, 35, 36, 37, 38, 39, 40, 41, 42, 43] (by decide +kernel) (by decide +kernel)
set_option maxRecDepth 20000 in
theorem gX1_isDense_X1_isNode : GoodIn wsX1_isDense (wsV RX1 57 RX1 yX1_isNode wsX1_isNode) := goodIn_app (goodIn_of _ (by decide +kernel)) ggX1_isDense_X1_isNode
set_option maxRecDepth 20000 in
theorem ggX1_isDense_X1_goesWell : GoodIn wsX1_isDense wsX1_goesWell := goodIn_r _ [11, 12, 34, 35, 36, 37, 38, 39, 40, 41, 42, 43] (by decide +kernel) (by decide +kernel)
set_option maxRecDepth 20000 in
theorem gX1_isDense_X1_goesWell : GoodIn wsX1_isDense (wsV RX1 47 RX1 yX1_goesWell wsX1_goesWell) := goodIn_app (goodIn_of _ (by decide +kernel)) ggX1_isDense_X1_goesWell
set_option maxRecDepth 20000 in
theorem ggX1_isDense_X1_peel : GoodIn wsX1_isDense wsX1_peel := goodIn_r _ [16, 1, 17, 7, 18, 19, 20, 21, 22, 5, 23, 24, 25, 26, 27, 28, 29, 30, 31, 32, 33, 34, 35, 36, 37, 38, 39, 40, 41, 42, 43] (by decide +kernel) (by decide +kernel)
set_option maxRecDepth 20000 in
theorem gX1_isDense_X1_peel : GoodIn wsX1_isDense (wsV RX1 82 RX1 yX1_peel wsX1_peel) := goodIn_app (goodIn_of _ (by decide +kernel)) ggX1_isDense_X1_peel
set_option maxRecDepth 20000 in
theorem ggX1_isDense_X1_has : GoodIn wsX1_isDense wsX1_has := goodIn_r _ [30] (by decide +kernel) (by decide +kernel)
set_option maxRecDepth 20000 in
theorem gX1_isDense_X1_has : GoodIn wsX1_isDense (va_wsS RX1 36 yX1_has wsX1_has) := goodIn_app (goodIn_of _ (by decide +kernel)) ggX1_isDense_X1_has
theorem dX1_isDense_0 : decode cX1_isDense 0 = .ok (.aload_n 0, 1) := by decide +kernel
theorem dX1_isDense_1 : decode cX1_isDense 1 = .ok (.aload_n 0, 1) := by decide +kernel
theorem dX1_isDense_2 : decode cX1_isDense 2 = .ok (.iload_n 1, 1) := by decide +kernel
theorem dX1_isDense_3 : decode cX1_isDense 3 = .ok (.invokevirtual 57, 3) := by decide +kernel
theorem dX1_isDense_6 : decode cX1_isDense 6 = .ok (.ifCond .eq 7, 3) := by decide +kernel
theorem dX1_isDense_9 : decode cX1_isDense 9 = .ok (.iconst 0, 1) := by decide +kernel
theorem dX1_isDense_10 : decode cX1_isDense 10 = .ok (.goto 4, 3) := by decide +kernel
theorem dX1_isDense_13 : decode cX1_isDense 13 = .ok (.iconst 1, 1) := by decide +kernel
theorem dX1_isDense_14 : decode cX1_isDense 14 = .ok (.invokevirtual 47, 3) := by decide +kernel
theorem dX1_isDense_17 : decode cX1_isDense 17 = .ok (.ifCond .ne 5, 3) := by decide +kernel
theorem dX1_isDense_20 : decode cX1_isDense 20 = .ok (.iconst 0, 1) := by decide +kernel
theorem dX1_isDense_21 : decode cX1_isDense 21 = .ok (.ireturn, 1) := by decide +kernel
theorem dX1_isDense_22 : decode cX1_isDense 22 = .ok (.aload_n 0, 1) := by decide +kernel
theorem dX1_isDense_23 : decode cX1_isDense 23 = .ok (.invokevirtual 82, 3) := by decide +kernel
theorem dX1_isDense_26 : decode cX1_isDense 26 = .ok (.aload_n 0, 1) := by decide +kernel
theorem dX1_isDense_27 : decode cX1_isDense 27 = .ok (.getfield 76, 3) := by decide +kernel
theorem dX1_isDense_30 : decode cX1_isDense 30 = .ok (.iload_n 1, 1) := by decide +kernel
theorem dX1_isDense_31 : decode cX1_isDense 31 = .ok (.invokestatic 36, 3) := by decide +kernel
theorem dX1_isDense_34 : decode cX1_isDense 34 = .ok (.ireturn, 1) := by decide +kernel
set_option maxRecDepth 20000 in
theorem ggX1_density_X1_peel : GoodIn wsX1_density wsX1_peel := goodIn_r _ [9, 4, 3, 2, 10, 11, 12, 13, 14, 8, 15, 16, 17, 18, 19, 20, 21, 22, 23, 24, 25, 26, 27, 28, 29, 30, 31, 32, 33, 34, 35] (by decide +kernel) (by decide +kernel)
set_option maxRecDepth 20000 in
theorem gX1_density_X1_peel : GoodIn wsX1_density (wsV RX1 82 RX1 yX1_peel wsX1_peel) := goodIn_app (goodIn_of _ (by decide +kernel)) ggX1_density_X1_peel
set_option maxRecDepth 20000 in
theorem ggX1_density_X1_sizeOf : GoodIn wsX1_density wsX1_sizeOf := goodIn_r _ [25] (by decide +kernel) (by decide +kernel)
set_option maxRecDepth 20000 in
theorem gX1_density_X1_sizeOf : GoodIn wsX1_density (va_wsS RX1 40 yX1_sizeOf wsX1_sizeOf) := goodIn_app (goodIn_of _ (by decide +kernel)) ggX1_density_X1_sizeOf
theorem dX1_density_0 : decode cX1_density 0 = .ok (.aload_n 0, 1) := by decide +kernel
theorem dX1_density_1 : decode cX1_density 1 = .ok (.iconst 0, 1) := by decide +kernel
theorem dX1_density_2 : decode cX1_density 2 = .ok (.putfield 25, 3) := by decide +kernel
theorem dX1_density_5 : decode cX1_density 5 = .ok (.aload_n 0, 1) := by decide +kernel
theorem dX1_density_6 : decode cX1_density 6 = .ok (.invokevirtual 82, 3) := by decide +kernel
theorem dX1_density_9 : decode cX1_density 9 = .ok (.aload_n 0, 1) := by decide +kernel
theorem dX1_density_10 : decode cX1_density 10 = .ok (.getfield 29, 3) := by decide +kernel
theorem dX1_density_13 : decode cX1_density 13 = .ok (.ifCond .ne 7, 3) := by decide +kernel
theorem dX1_density_16 : decode cX1_density 16 = .ok (.dconst 0, 1) := by decide +kernel
theorem dX1_density_17 : decode cX1_density 17 = .ok (.goto 17, 3) := by decide +kernel
theorem dX1_density_20 : decode cX1_density 20 = .ok (.aload_n 0, 1) := by decide +kernel
theorem dX1_density_21 : decode cX1_density 21 = .ok (.getfield 79, 3) := by decide +kernel
theorem dX1_density_24 : decode cX1_density 24 = .ok (.i2d, 1) := by decide +kernel
theorem dX1_density_25 : decode cX1_density 25 = .ok (.aload_n 0, 1) := by decide +kernel
theorem dX1_density_26 : decode cX1_density 26 = .ok (.getfield 76, 3) := by decide +kernel
theorem dX1_density_29 : decode cX1_density 29 = .ok (.invokestatic 40, 3) := by decide +kernel
theorem dX1_density_32 : decode cX1_density 32 = .ok (.i2d, 1) := by decide +kernel
theorem dX1_density_33 : decode cX1_density 33 = .ok (.ddiv, 1) := by decide +kernel
theorem dX1_density_34 : decode cX1_density 34 = .ok (.dreturn, 1) := by decide +kernel
set_option maxRecDepth 20000 in
theorem ggX1_faultOfEdge_X1_isNode : GoodIn wsX1_faultOfEdge wsX1_isNode := goodIn_r _ [6, 7, 11, 12, 13, 14, 15, 16, 17, 18, 19, 20] (by decide +kernel) (by decide +kernel)
set_option maxRecDepth 20000 in
theorem gX1_faultOfEdge_X1_isNode : GoodIn wsX1_faultOfEdge (wsV RX1 57 RX1 yX1_isNode wsX1_isNode) := goodIn_app (goodIn_of _ (by decide +kernel)) ggX1_faultOfEdge_X1_isNode
set_option maxRecDepth 20000 in
theorem ggX1_faultOfEdge_X1_has : GoodIn wsX1_faultOfEdge wsX1_has := goodIn_r _ [10] (by decide +kernel) (by decide +kernel)
set_option maxRecDepth 20000 in
theorem gX1_faultOfEdge_X1_has : GoodIn wsX1_faultOfEdge (va_wsS RX1 36 yX1_has wsX1_has) := goodIn_app (goodIn_of _ (by decide +kernel)) ggX1_faultOfEdge_X1_has
theorem dX1_faultOfEdge_0 : decode cX1_faultOfEdge 0 = .ok (.aload_n 0, 1) := by decide +kernel
theorem dX1_faultOfEdge_1 : decode cX1_faultOfEdge 1 = .ok (.iload_n 1, 1) := by decide +kernel
theorem dX1_faultOfEdge_2 : decode cX1_faultOfEdge 2 = .ok (.invokevirtual 57, 3) := by decide +kernel
theorem dX1_faultOfEdge_5 : decode cX1_faultOfEdge 5 = .ok (.ifCond .eq 11, 3) := by decide +kernel
theorem dX1_faultOfEdge_8 : decode cX1_faultOfEdge 8 = .ok (.aload_n 0, 1) := by decide +kernel
theorem dX1_faultOfEdge_9 : decode cX1_faultOfEdge 9 = .ok (.iload_n 2, 1) := by decide +kernel
theorem dX1_faultOfEdge_10 : decode cX1_faultOfEdge 10 = .ok (.invokevirtual 57, 3) := by decide +kernel
theorem dX1_faultOfEdge_13 : decode cX1_faultOfEdge 13 = .ok (.ifCond .ne 7, 3) := by decide +kernel
theorem dX1_faultOfEdge_16 : decode cX1_faultOfEdge 16 = .ok (.iconst 1, 1) := by decide +kernel
theorem dX1_faultOfEdge_17 : decode cX1_faultOfEdge 17 = .ok (.goto 21, 3) := by decide +kernel
theorem dX1_faultOfEdge_20 : decode cX1_faultOfEdge 20 = .ok (.aload_n 0, 1) := by decide +kernel
theorem dX1_faultOfEdge_21 : decode cX1_faultOfEdge 21 = .ok (.getfield 7, 3) := by decide +kernel
theorem dX1_faultOfEdge_24 : decode cX1_faultOfEdge 24 = .ok (.iload_n 1, 1) := by decide +kernel
theorem dX1_faultOfEdge_25 : decode cX1_faultOfEdge 25 = .ok (.iaload, 1) := by decide +kernel
theorem dX1_faultOfEdge_26 : decode cX1_faultOfEdge 26 = .ok (.iload_n 2, 1) := by decide +kernel
theorem dX1_faultOfEdge_27 : decode cX1_faultOfEdge 27 = .ok (.invokestatic 36, 3) := by decide +kernel
theorem dX1_faultOfEdge_30 : decode cX1_faultOfEdge 30 = .ok (.ifCond .eq 7, 3) := by decide +kernel
theorem dX1_faultOfEdge_33 : decode cX1_faultOfEdge 33 = .ok (.iconst 0, 1) := by decide +kernel
theorem dX1_faultOfEdge_34 : decode cX1_faultOfEdge 34 = .ok (.goto 4, 3) := by decide +kernel
theorem dX1_faultOfEdge_37 : decode cX1_faultOfEdge 37 = .ok (.iconst 2, 1) := by decide +kernel
theorem dX1_faultOfEdge_38 : decode cX1_faultOfEdge 38 = .ok (.ireturn, 1) := by decide +kernel
set_option maxRecDepth 20000 in
theorem ggX1_support_X1_faultOfEdge : GoodIn wsX1_support wsX1_faultOfEdge := goodIn_r _ [6, 1, 7, 8, 9, 5, 10, 11, 12, 13, 14, 23, 24, 25, 26, 27, 28, 29, 30, 31, 32] (by decide +kernel) (by decide +kernel)
set_option maxRecDepth 20000 in
theorem gX1_support_X1_faultOfEdge : GoodIn wsX1_support (wsV RX1 85 RX1 yX1_faultOfEdge wsX1_faultOfEdge) := goodIn_app (goodIn_of _ (by decide +kernel)) ggX1_support_X1_faultOfEdge
set_option maxRecDepth 20000 in
theorem ggX1_support_X1_goesWell : GoodIn wsX1_support wsX1_goesWell := goodIn_r _ [18, 19, 23, 24, 25, 26, 27, 28, 29, 30, 31, 32] (by decide +kernel) (by decide +kernel)
set_option maxRecDepth 20000 in
theorem gX1_support_X1_goesWell : GoodIn wsX1_support (wsV RX1 47 RX1 yX1_goesWell wsX1_goesWell) := goodIn_app (goodIn_of _ (by decide +kernel)) ggX1_support_X1_goesWell
set_option maxRecDepth 20000 in
theorem ggX1_support_X1_sizeOf : GoodIn wsX1_support wsX1_sizeOf := goodIn_r _ [22] (by decide +kernel) (by decide +kernel)
set_option maxRecDepth 20000 in
theorem gX1_support_X1_sizeOf : GoodIn wsX1_support (va_wsS RX1 40 yX1_sizeOf wsX1_sizeOf) := goodIn_app (goodIn_of _ (by decide +kernel)) ggX1_support_X1_sizeOf
theorem dX1_support_0 : decode cX1_support 0 = .ok (.aload_n 0, 1) := by decide +kernel
theorem dX1_support_1 : decode cX1_support 1 = .ok (.aload_n 0, 1) := by decide +kernel
theorem dX1_support_2 : decode cX1_support 2 = .ok (.iload_n 1, 1) := by decide +kernel
theorem dX1_support_3 : decode cX1_support 3 = .ok (.iload_n 2, 1) := by decide +kernel
theorem dX1_support_4 : decode cX1_support 4 = .ok (.invokevirtual 85, 3) := by decide +kernel
theorem dX1_support_7 : decode cX1_support 7 = .ok (.invokevirtual 47, 3) := by decide +kernel
theorem dX1_support_10 : decode cX1_support 10 = .ok (.ifCond .eq 22, 3) := by decide +kernel
theorem dX1_support_13 : decode cX1_support 13 = .ok (.aload_n 0, 1) := by decide +kernel
theorem dX1_support_14 : decode cX1_support 14 = .ok (.getfield 7, 3) := by decide +kernel
theorem dX1_support_17 : decode cX1_support 17 = .ok (.iload_n 1, 1) := by decide +kernel
theorem dX1_support_18 : decode cX1_support 18 = .ok (.iaload, 1) := by decide +kernel
theorem dX1_support_19 : decode cX1_support 19 = .ok (.aload_n 0, 1) := by decide +kernel
theorem dX1_support_20 : decode cX1_support 20 = .ok (.getfield 7, 3) := by decide +kernel
theorem dX1_support_23 : decode cX1_support 23 = .ok (.iload_n 2, 1) := by decide +kernel
theorem dX1_support_24 : decode cX1_support 24 = .ok (.iaload, 1) := by decide +kernel
theorem dX1_support_25 : decode cX1_support 25 = .ok (.iand, 1) := by decide +kernel
theorem dX1_support_26 : decode cX1_support 26 = .ok (.invokestatic 40, 3) := by decide +kernel
theorem dX1_support_29 : decode cX1_support 29 = .ok (.goto 4, 3) := by decide +kernel
theorem dX1_support_32 : decode cX1_support 32 = .ok (.iconst 0, 1) := by decide +kernel
theorem dX1_support_33 : decode cX1_support 33 = .ok (.ireturn, 1) := by decide +kernel
set_option maxRecDepth 20000 in
theorem ggX1_triangles_X1_has : GoodIn wsX1_triangles wsX1_has := goodIn_r _ [7] (by decide +kernel) (by decide +kernel)
set_option maxRecDepth 20000 in
theorem gX1_triangles_X1_has : GoodIn wsX1_triangles (va_wsS RX1 36 yX1_has wsX1_has) := goodIn_app (goodIn_of _ (by decide +kernel)) ggX1_triangles_X1_has
set_option maxRecDepth 20000 in
theorem ggX1_triangles_X1_sizeOf : GoodIn wsX1_triangles wsX1_sizeOf := goodIn_r _ [10] (by decide +kernel) (by decide +kernel)
set_option maxRecDepth 20000 in
theorem gX1_triangles_X1_sizeOf : GoodIn wsX1_triangles (va_wsS RX1 40 yX1_sizeOf wsX1_sizeOf) := goodIn_app (goodIn_of _ (by decide +kernel)) ggX1_triangles_X1_sizeOf
theorem dX1_triangles_0 : decode cX1_triangles 0 = .ok (.aload_n 0, 1) := by decide +kernel
theorem dX1_triangles_1 : decode cX1_triangles 1 = .ok (.iconst 0, 1) := by decide +kernel
theorem dX1_triangles_2 : decode cX1_triangles 2 = .ok (.putfield 25, 3) := by decide +kernel
theorem dX1_triangles_5 : decode cX1_triangles 5 = .ok (.iconst 0, 1) := by decide +kernel
theorem dX1_triangles_6 : decode cX1_triangles 6 = .ok (.istore_n 1, 1) := by decide +kernel
theorem dX1_triangles_7 : decode cX1_triangles 7 = .ok (.iconst 0, 1) := by decide +kernel
theorem dX1_triangles_8 : decode cX1_triangles 8 = .ok (.istore_n 2, 1) := by decide +kernel
theorem dX1_triangles_9 : decode cX1_triangles 9 = .ok (.iload_n 2, 1) := by decide +kernel
theorem dX1_triangles_10 : decode cX1_triangles 10 = .ok (.aload_n 0, 1) := by decide +kernel
theorem dX1_triangles_11 : decode cX1_triangles 11 = .ok (.getfield 29, 3) := by decide +kernel
theorem dX1_triangles_14 : decode cX1_triangles 14 = .ok (.if_icmp .ge 58, 3) := by decide +kernel
theorem dX1_triangles_17 : decode cX1_triangles 17 = .ok (.iconst 0, 1) := by decide +kernel
theorem dX1_triangles_18 : decode cX1_triangles 18 = .ok (.istore_n 3, 1) := by decide +kernel
theorem dX1_triangles_19 : decode cX1_triangles 19 = .ok (.iload_n 3, 1) := by decide +kernel
theorem dX1_triangles_20 : decode cX1_triangles 20 = .ok (.iload_n 2, 1) := by decide +kernel
theorem dX1_triangles_21 : decode cX1_triangles 21 = .ok (.if_icmp .ge 45, 3) := by decide +kernel
theorem dX1_triangles_24 : decode cX1_triangles 24 = .ok (.iload_n 1, 1) := by decide +kernel
theorem dX1_triangles_25 : decode cX1_triangles 25 = .ok (.aload_n 0, 1) := by decide +kernel
theorem dX1_triangles_26 : decode cX1_triangles 26 = .ok (.getfield 7, 3) := by decide +kernel
theorem dX1_triangles_29 : decode cX1_triangles 29 = .ok (.iload_n 2, 1) := by decide +kernel
theorem dX1_triangles_30 : decode cX1_triangles 30 = .ok (.iaload, 1) := by decide +kernel
theorem dX1_triangles_31 : decode cX1_triangles 31 = .ok (.iload_n 3, 1) := by decide +kernel
theorem dX1_triangles_32 : decode cX1_triangles 32 = .ok (.invokestatic 36, 3) := by decide +kernel
theorem dX1_triangles_35 : decode cX1_triangles 35 = .ok (.ifCond .eq 22, 3) := by decide +kernel
theorem dX1_triangles_38 : decode cX1_triangles 38 = .ok (.aload_n 0, 1) := by decide +kernel
theorem dX1_triangles_39 : decode cX1_triangles 39 = .ok (.getfield 7, 3) := by decide +kernel
theorem dX1_triangles_42 : decode cX1_triangles 42 = .ok (.iload_n 2, 1) := by decide +kernel
theorem dX1_triangles_43 : decode cX1_triangles 43 = .ok (.iaload, 1) := by decide +kernel
theorem dX1_triangles_44 : decode cX1_triangles 44 = .ok (.aload_n 0, 1) := by decide +kernel
theorem dX1_triangles_45 : decode cX1_triangles 45 = .ok (.getfield 7, 3) := by decide +kernel
theorem dX1_triangles_48 : decode cX1_triangles 48 = .ok (.iload_n 3, 1) := by decide +kernel
theorem dX1_triangles_49 : decode cX1_triangles 49 = .ok (.iaload, 1) := by decide +kernel
theorem dX1_triangles_50 : decode cX1_triangles 50 = .ok (.iand, 1) := by decide +kernel
theorem dX1_triangles_51 : decode cX1_triangles 51 = .ok (.invokestatic 40, 3) := by decide +kernel
theorem dX1_triangles_54 : decode cX1_triangles 54 = .ok (.goto 4, 3) := by decide +kernel
theorem dX1_triangles_57 : decode cX1_triangles 57 = .ok (.iconst 0, 1) := by decide +kernel
theorem dX1_triangles_58 : decode cX1_triangles 58 = .ok (.iadd, 1) := by decide +kernel
theorem dX1_triangles_59 : decode cX1_triangles 59 = .ok (.istore_n 1, 1) := by decide +kernel
theorem dX1_triangles_60 : decode cX1_triangles 60 = .ok (.iinc 3 1, 3) := by decide +kernel
theorem dX1_triangles_63 : decode cX1_triangles 63 = .ok (.goto (-44), 3) := by decide +kernel
theorem dX1_triangles_66 : decode cX1_triangles 66 = .ok (.iinc 2 1, 3) := by decide +kernel
theorem dX1_triangles_69 : decode cX1_triangles 69 = .ok (.goto (-60), 3) := by decide +kernel
theorem dX1_triangles_72 : decode cX1_triangles 72 = .ok (.iload_n 1, 1) := by decide +kernel
theorem dX1_triangles_73 : decode cX1_triangles 73 = .ok (.iconst 3, 1) := by decide +kernel
theorem dX1_triangles_74 : decode cX1_triangles 74 = .ok (.idiv, 1) := by decide +kernel
theorem dX1_triangles_75 : decode cX1_triangles 75 = .ok (.ireturn, 1) := by decide +kernel
set_option maxRecDepth 20000 in
theorem ggX1_layTruss_X1_has : GoodIn wsX1_layTruss wsX1_has := goodIn_r _ [7] (by decide +kernel) (by decide +kernel)
set_option maxRecDepth 20000 in
theorem gX1_layTruss_X1_has : GoodIn wsX1_layTruss (va_wsS RX1 36 yX1_has wsX1_has) := goodIn_app (goodIn_of _ (by decide +kernel)) ggX1_layTruss_X1_has
set_option maxRecDepth 20000 in
theorem ggX1_layTruss_X1_sizeOf : GoodIn wsX1_layTruss wsX1_sizeOf := goodIn_r _ [10] (by decide +kernel) (by decide +kernel)
set_option maxRecDepth 20000 in
theorem gX1_layTruss_X1_sizeOf : GoodIn wsX1_layTruss (va_wsS RX1 40 yX1_sizeOf wsX1_sizeOf) := goodIn_app (goodIn_of _ (by decide +kernel)) ggX1_layTruss_X1_sizeOf
theorem dX1_layTruss_0 : decode cX1_layTruss 0 = .ok (.iconst 0, 1) := by decide +kernel
theorem dX1_layTruss_1 : decode cX1_layTruss 1 = .ok (.istore_n 2, 1) := by decide +kernel
theorem dX1_layTruss_2 : decode cX1_layTruss 2 = .ok (.iload_n 2, 1) := by decide +kernel
theorem dX1_layTruss_3 : decode cX1_layTruss 3 = .ok (.aload_n 0, 1) := by decide +kernel
theorem dX1_layTruss_4 : decode cX1_layTruss 4 = .ok (.getfield 29, 3) := by decide +kernel
theorem dX1_layTruss_7 : decode cX1_layTruss 7 = .ok (.if_icmp .ge 21, 3) := by decide +kernel
theorem dX1_layTruss_10 : decode cX1_layTruss 10 = .ok (.aload_n 0, 1) := by decide +kernel
theorem dX1_layTruss_11 : decode cX1_layTruss 11 = .ok (.getfield 19, 3) := by decide +kernel
theorem dX1_layTruss_14 : decode cX1_layTruss 14 = .ok (.iload_n 2, 1) := by decide +kernel
theorem dX1_layTruss_15 : decode cX1_layTruss 15 = .ok (.aload_n 0, 1) := by decide +kernel
theorem dX1_layTruss_16 : decode cX1_layTruss 16 = .ok (.getfield 7, 3) := by decide +kernel
theorem dX1_layTruss_19 : decode cX1_layTruss 19 = .ok (.iload_n 2, 1) := by decide +kernel
theorem dX1_layTruss_20 : decode cX1_layTruss 20 = .ok (.iaload, 1) := by decide +kernel
theorem dX1_layTruss_21 : decode cX1_layTruss 21 = .ok (.iastore, 1) := by decide +kernel
theorem dX1_layTruss_22 : decode cX1_layTruss 22 = .ok (.iinc 2 1, 3) := by decide +kernel
theorem dX1_layTruss_25 : decode cX1_layTruss 25 = .ok (.goto (-23), 3) := by decide +kernel
theorem dX1_layTruss_28 : decode cX1_layTruss 28 = .ok (.iconst 1, 1) := by decide +kernel
theorem dX1_layTruss_29 : decode cX1_layTruss 29 = .ok (.istore_n 2, 1) := by decide +kernel
theorem dX1_layTruss_30 : decode cX1_layTruss 30 = .ok (.iload_n 2, 1) := by decide +kernel
theorem dX1_layTruss_31 : decode cX1_layTruss 31 = .ok (.ifCond .eq 108, 3) := by decide +kernel
theorem dX1_layTruss_34 : decode cX1_layTruss 34 = .ok (.iconst 0, 1) := by decide +kernel
theorem dX1_layTruss_35 : decode cX1_layTruss 35 = .ok (.istore_n 2, 1) := by decide +kernel
theorem dX1_layTruss_36 : decode cX1_layTruss 36 = .ok (.iconst 0, 1) := by decide +kernel
theorem dX1_layTruss_37 : decode cX1_layTruss 37 = .ok (.istore_n 3, 1) := by decide +kernel
theorem dX1_layTruss_38 : decode cX1_layTruss 38 = .ok (.iload_n 3, 1) := by decide +kernel
theorem dX1_layTruss_39 : decode cX1_layTruss 39 = .ok (.aload_n 0, 1) := by decide +kernel
theorem dX1_layTruss_40 : decode cX1_layTruss 40 = .ok (.getfield 29, 3) := by decide +kernel
theorem dX1_layTruss_43 : decode cX1_layTruss 43 = .ok (.if_icmp .ge 93, 3) := by decide +kernel
theorem dX1_layTruss_46 : decode cX1_layTruss 46 = .ok (.iconst 0, 1) := by decide +kernel
theorem dX1_layTruss_47 : decode cX1_layTruss 47 = .ok (.istore 4, 2) := by decide +kernel
theorem dX1_layTruss_49 : decode cX1_layTruss 49 = .ok (.iload 4, 2) := by decide +kernel
theorem dX1_layTruss_51 : decode cX1_layTruss 51 = .ok (.iload_n 3, 1) := by decide +kernel
theorem dX1_layTruss_52 : decode cX1_layTruss 52 = .ok (.if_icmp .ge 78, 3) := by decide +kernel
theorem dX1_layTruss_55 : decode cX1_layTruss 55 = .ok (.aload_n 0, 1) := by decide +kernel
theorem dX1_layTruss_56 : decode cX1_layTruss 56 = .ok (.getfield 19, 3) := by decide +kernel
theorem dX1_layTruss_59 : decode cX1_layTruss 59 = .ok (.iload_n 3, 1) := by decide +kernel
theorem dX1_layTruss_60 : decode cX1_layTruss 60 = .ok (.iaload, 1) := by decide +kernel
theorem dX1_layTruss_61 : decode cX1_layTruss 61 = .ok (.iload 4, 2) := by decide +kernel
theorem dX1_layTruss_63 : decode cX1_layTruss 63 = .ok (.invokestatic 36, 3) := by decide +kernel
theorem dX1_layTruss_66 : decode cX1_layTruss 66 = .ok (.ifCond .eq 58, 3) := by decide +kernel
theorem dX1_layTruss_69 : decode cX1_layTruss 69 = .ok (.aload_n 0, 1) := by decide +kernel
theorem dX1_layTruss_70 : decode cX1_layTruss 70 = .ok (.getfield 19, 3) := by decide +kernel
theorem dX1_layTruss_73 : decode cX1_layTruss 73 = .ok (.iload_n 3, 1) := by decide +kernel
theorem dX1_layTruss_74 : decode cX1_layTruss 74 = .ok (.iaload, 1) := by decide +kernel
theorem dX1_layTruss_75 : decode cX1_layTruss 75 = .ok (.aload_n 0, 1) := by decide +kernel
theorem dX1_layTruss_76 : decode cX1_layTruss 76 = .ok (.getfield 19, 3) := by decide +kernel
theorem dX1_layTruss_79 : decode cX1_layTruss 79 = .ok (.iload 4, 2) := by decide +kernel
theorem dX1_layTruss_81 : decode cX1_layTruss 81 = .ok (.iaload, 1) := by decide +kernel
theorem dX1_layTruss_82 : decode cX1_layTruss 82 = .ok (.iand, 1) := by decide +kernel
theorem dX1_layTruss_83 : decode cX1_layTruss 83 = .ok (.invokestatic 40, 3) := by decide +kernel
theorem dX1_layTruss_86 : decode cX1_layTruss 86 = .ok (.iload_n 1, 1) := by decide +kernel
theorem dX1_layTruss_87 : decode cX1_layTruss 87 = .ok (.iconst 2, 1) := by decide +kernel
theorem dX1_layTruss_88 : decode cX1_layTruss 88 = .ok (.isub, 1) := by decide +kernel
theorem dX1_layTruss_89 : decode cX1_layTruss 89 = .ok (.if_icmp .ge 35, 3) := by decide +kernel
theorem dX1_layTruss_92 : decode cX1_layTruss 92 = .ok (.aload_n 0, 1) := by decide +kernel
theorem dX1_layTruss_93 : decode cX1_layTruss 93 = .ok (.getfield 19, 3) := by decide +kernel
theorem dX1_layTruss_96 : decode cX1_layTruss 96 = .ok (.iload_n 3, 1) := by decide +kernel
theorem dX1_layTruss_97 : decode cX1_layTruss 97 = .ok (.dup2, 1) := by decide +kernel
theorem dX1_layTruss_98 : decode cX1_layTruss 98 = .ok (.iaload, 1) := by decide +kernel
theorem dX1_layTruss_99 : decode cX1_layTruss 99 = .ok (.iconst 1, 1) := by decide +kernel
theorem dX1_layTruss_100 : decode cX1_layTruss 100 = .ok (.iload 4, 2) := by decide +kernel
theorem dX1_layTruss_102 : decode cX1_layTruss 102 = .ok (.ishl, 1) := by decide +kernel
theorem dX1_layTruss_103 : decode cX1_layTruss 103 = .ok (.iconst (-1), 1) := by decide +kernel
theorem dX1_layTruss_104 : decode cX1_layTruss 104 = .ok (.ixor, 1) := by decide +kernel
theorem dX1_layTruss_105 : decode cX1_layTruss 105 = .ok (.iand, 1) := by decide +kernel
theorem dX1_layTruss_106 : decode cX1_layTruss 106 = .ok (.iastore, 1) := by decide +kernel
theorem dX1_layTruss_107 : decode cX1_layTruss 107 = .ok (.aload_n 0, 1) := by decide +kernel
theorem dX1_layTruss_108 : decode cX1_layTruss 108 = .ok (.getfield 19, 3) := by decide +kernel
theorem dX1_layTruss_111 : decode cX1_layTruss 111 = .ok (.iload 4, 2) := by decide +kernel
theorem dX1_layTruss_113 : decode cX1_layTruss 113 = .ok (.dup2, 1) := by decide +kernel
theorem dX1_layTruss_114 : decode cX1_layTruss 114 = .ok (.iaload, 1) := by decide +kernel
theorem dX1_layTruss_115 : decode cX1_layTruss 115 = .ok (.iconst 1, 1) := by decide +kernel
theorem dX1_layTruss_116 : decode cX1_layTruss 116 = .ok (.iload_n 3, 1) := by decide +kernel
theorem dX1_layTruss_117 : decode cX1_layTruss 117 = .ok (.ishl, 1) := by decide +kernel
theorem dX1_layTruss_118 : decode cX1_layTruss 118 = .ok (.iconst (-1), 1) := by decide +kernel
theorem dX1_layTruss_119 : decode cX1_layTruss 119 = .ok (.ixor, 1) := by decide +kernel
theorem dX1_layTruss_120 : decode cX1_layTruss 120 = .ok (.iand, 1) := by decide +kernel
theorem dX1_layTruss_121 : decode cX1_layTruss 121 = .ok (.iastore, 1) := by decide +kernel
theorem dX1_layTruss_122 : decode cX1_layTruss 122 = .ok (.iconst 1, 1) := by decide +kernel
theorem dX1_layTruss_123 : decode cX1_layTruss 123 = .ok (.istore_n 2, 1) := by decide +kernel
theorem dX1_layTruss_124 : decode cX1_layTruss 124 = .ok (.iinc 4 1, 3) := by decide +kernel
theorem dX1_layTruss_127 : decode cX1_layTruss 127 = .ok (.goto (-78), 3) := by decide +kernel
theorem dX1_layTruss_130 : decode cX1_layTruss 130 = .ok (.iinc 3 1, 3) := by decide +kernel
theorem dX1_layTruss_133 : decode cX1_layTruss 133 = .ok (.goto (-95), 3) := by decide +kernel
theorem dX1_layTruss_136 : decode cX1_layTruss 136 = .ok (.goto (-106), 3) := by decide +kernel
theorem dX1_layTruss_139 : decode cX1_layTruss 139 = .ok (.return_, 1) := by decide +kernel
set_option maxRecDepth 20000 in
theorem ggX1_truss_X1_faultOfEdge : GoodIn wsX1_truss wsX1_faultOfEdge := goodIn_r _ [6, 7, 8, 9, 10, 5, 11, 12, 13, 14, 15, 28, 29, 30, 31, 32, 33, 34, 35, 36, 37] (by decide +kernel) (by decide +kernel)
set_option maxRecDepth 20000 in
theorem gX1_truss_X1_faultOfEdge : GoodIn wsX1_truss (wsV RX1 85 RX1 yX1_faultOfEdge wsX1_faultOfEdge) := goodIn_app (goodIn_of _ (by decide +kernel)) ggX1_truss_X1_faultOfEdge
set_option maxRecDepth 20000 in
theorem ggX1_truss_X1_goesWell : GoodIn wsX1_truss wsX1_goesWell := goodIn_r _ [19, 20, 28, 29, 30, 31, 32, 33, 34, 35, 36, 37] (by decide +kernel) (by decide +kernel)
set_option maxRecDepth 20000 in
theorem gX1_truss_X1_goesWell : GoodIn wsX1_truss (wsV RX1 47 RX1 yX1_goesWell wsX1_goesWell) := goodIn_app (goodIn_of _ (by decide +kernel)) ggX1_truss_X1_goesWell
set_option maxRecDepth 20000 in
theorem ggX1_truss_X1_layTruss : GoodIn wsX1_truss wsX1_layTruss := goodIn_r _ [24, 12, 1, 7, 13, 14, 5, 15, 25, 26, 27, 28, 29, 30, 31, 32, 33, 34, 35, 36, 37] (by decide +kernel) (by decide +kernel)
set_option maxRecDepth 20000 in
theorem gX1_truss_X1_layTruss : GoodIn wsX1_truss (wsV RX1 88 RX1 yX1_layTruss wsX1_layTruss) := goodIn_app (goodIn_of _ (by decide +kernel)) ggX1_truss_X1_layTruss
set_option maxRecDepth 20000 in
theorem ggX1_truss_X1_has : GoodIn wsX1_truss wsX1_has := goodIn_r _ [15] (by decide +kernel) (by decide +kernel)
set_option maxRecDepth 20000 in
theorem gX1_truss_X1_has : GoodIn wsX1_truss (va_wsS RX1 36 yX1_has wsX1_has) := goodIn_app (goodIn_of _ (by decide +kernel)) ggX1_truss_X1_has
theorem dX1_truss_0 : decode cX1_truss 0 = .ok (.aload_n 0, 1) := by decide +kernel
theorem dX1_truss_1 : decode cX1_truss 1 = .ok (.aload_n 0, 1) := by decide +kernel
theorem dX1_truss_2 : decode cX1_truss 2 = .ok (.iload_n 1, 1) := by decide +kernel
theorem dX1_truss_3 : decode cX1_truss 3 = .ok (.iload_n 2, 1) := by decide +kernel
theorem dX1_truss_4 : decode cX1_truss 4 = .ok (.invokevirtual 85, 3) := by decide +kernel
theorem dX1_truss_7 : decode cX1_truss 7 = .ok (.invokevirtual 47, 3) := by decide +kernel
theorem dX1_truss_10 : decode cX1_truss 10 = .ok (.ifCond .ne 5, 3) := by decide +kernel
theorem dX1_truss_13 : decode cX1_truss 13 = .ok (.iconst 0, 1) := by decide +kernel
theorem dX1_truss_14 : decode cX1_truss 14 = .ok (.ireturn, 1) := by decide +kernel
theorem dX1_truss_15 : decode cX1_truss 15 = .ok (.iconst 2, 1) := by decide +kernel
theorem dX1_truss_16 : decode cX1_truss 16 = .ok (.istore_n 3, 1) := by decide +kernel
theorem dX1_truss_17 : decode cX1_truss 17 = .ok (.aload_n 0, 1) := by decide +kernel
theorem dX1_truss_18 : decode cX1_truss 18 = .ok (.iload_n 3, 1) := by decide +kernel
theorem dX1_truss_19 : decode cX1_truss 19 = .ok (.iconst 1, 1) := by decide +kernel
theorem dX1_truss_20 : decode cX1_truss 20 = .ok (.iadd, 1) := by decide +kernel
theorem dX1_truss_21 : decode cX1_truss 21 = .ok (.invokevirtual 88, 3) := by decide +kernel
theorem dX1_truss_24 : decode cX1_truss 24 = .ok (.aload_n 0, 1) := by decide +kernel
theorem dX1_truss_25 : decode cX1_truss 25 = .ok (.getfield 19, 3) := by decide +kernel
theorem dX1_truss_28 : decode cX1_truss 28 = .ok (.iload_n 1, 1) := by decide +kernel
theorem dX1_truss_29 : decode cX1_truss 29 = .ok (.iaload, 1) := by decide +kernel
theorem dX1_truss_30 : decode cX1_truss 30 = .ok (.iload_n 2, 1) := by decide +kernel
theorem dX1_truss_31 : decode cX1_truss 31 = .ok (.invokestatic 36, 3) := by decide +kernel
theorem dX1_truss_34 : decode cX1_truss 34 = .ok (.ifCond .eq 16, 3) := by decide +kernel
theorem dX1_truss_37 : decode cX1_truss 37 = .ok (.iinc 3 1, 3) := by decide +kernel
theorem dX1_truss_40 : decode cX1_truss 40 = .ok (.aload_n 0, 1) := by decide +kernel
theorem dX1_truss_41 : decode cX1_truss 41 = .ok (.iload_n 3, 1) := by decide +kernel
theorem dX1_truss_42 : decode cX1_truss 42 = .ok (.iconst 1, 1) := by decide +kernel
theorem dX1_truss_43 : decode cX1_truss 43 = .ok (.iadd, 1) := by decide +kernel
theorem dX1_truss_44 : decode cX1_truss 44 = .ok (.invokevirtual 88, 3) := by decide +kernel
theorem dX1_truss_47 : decode cX1_truss 47 = .ok (.goto (-23), 3) := by decide +kernel
theorem dX1_truss_50 : decode cX1_truss 50 = .ok (.iload_n 3, 1) := by decide +kernel
theorem dX1_truss_51 : decode cX1_truss 51 = .ok (.ireturn, 1) := by decide +kernel
set_option maxRecDepth 20000 in
theorem ggX1_trussSize_X1_goesWell : GoodIn wsX1_trussSize wsX1_goesWell := goodIn_r _ [7, 8, 20, 21, 22, 23, 24, 25, 26, 27, 28, 29] (by decide +kernel) (by decide +kernel)
set_option maxRecDepth 20000 in
theorem gX1_trussSize_X1_goesWell : GoodIn wsX1_trussSize (wsV RX1 47 RX1 yX1_goesWell wsX1_goesWell) := goodIn_app (goodIn_of _ (by decide +kernel)) ggX1_trussSize_X1_goesWell
set_option maxRecDepth 20000 in
theorem ggX1_trussSize_X1_layTruss : GoodIn wsX1_trussSize wsX1_layTruss := goodIn_r _ [12, 1, 2, 13, 14, 15, 6, 16, 17, 18, 19, 20, 21, 22, 23, 24, 25, 26, 27, 28, 29] (by decide +kernel) (by decide +kernel)
set_option maxRecDepth 20000 in
theorem gX1_trussSize_X1_layTruss : GoodIn wsX1_trussSize (wsV RX1 88 RX1 yX1_layTruss wsX1_layTruss) := goodIn_app (goodIn_of _ (by decide +kernel)) ggX1_trussSize_X1_layTruss
set_option maxRecDepth 20000 in
theorem ggX1_trussSize_X1_sizeOf : GoodIn wsX1_trussSize wsX1_sizeOf := goodIn_r _ [19] (by decide +kernel) (by decide +kernel)
set_option maxRecDepth 20000 in
theorem gX1_trussSize_X1_sizeOf : GoodIn wsX1_trussSize (va_wsS RX1 40 yX1_sizeOf wsX1_sizeOf) := goodIn_app (goodIn_of _ (by decide +kernel)) ggX1_trussSize_X1_sizeOf
theorem dX1_trussSize_0 : decode cX1_trussSize 0 = .ok (.aload_n 0, 1) := by decide +kernel
theorem dX1_trussSize_1 : decode cX1_trussSize 1 = .ok (.iload_n 1, 1) := by decide +kernel
theorem dX1_trussSize_2 : decode cX1_trussSize 2 = .ok (.iconst 2, 1) := by decide +kernel
theorem dX1_trussSize_3 : decode cX1_trussSize 3 = .ok (.if_icmp .ge 7, 3) := by decide +kernel
theorem dX1_trussSize_6 : decode cX1_trussSize 6 = .ok (.iconst 1, 1) := by decide +kernel
theorem dX1_trussSize_7 : decode cX1_trussSize 7 = .ok (.goto 4, 3) := by decide +kernel
theorem dX1_trussSize_10 : decode cX1_trussSize 10 = .ok (.iconst 0, 1) := by decide +kernel
theorem dX1_trussSize_11 : decode cX1_trussSize 11 = .ok (.invokevirtual 47, 3) := by decide +kernel
theorem dX1_trussSize_14 : decode cX1_trussSize 14 = .ok (.ifCond .ne 5, 3) := by decide +kernel
theorem dX1_trussSize_17 : decode cX1_trussSize 17 = .ok (.iconst 0, 1) := by decide +kernel
theorem dX1_trussSize_18 : decode cX1_trussSize 18 = .ok (.ireturn, 1) := by decide +kernel
theorem dX1_trussSize_19 : decode cX1_trussSize 19 = .ok (.aload_n 0, 1) := by decide +kernel
theorem dX1_trussSize_20 : decode cX1_trussSize 20 = .ok (.iload_n 1, 1) := by decide +kernel
theorem dX1_trussSize_21 : decode cX1_trussSize 21 = .ok (.invokevirtual 88, 3) := by decide +kernel
theorem dX1_trussSize_24 : decode cX1_trussSize 24 = .ok (.iconst 0, 1) := by decide +kernel
theorem dX1_trussSize_25 : decode cX1_trussSize 25 = .ok (.istore_n 2, 1) := by decide +kernel
theorem dX1_trussSize_26 : decode cX1_trussSize 26 = .ok (.iconst 0, 1) := by decide +kernel
theorem dX1_trussSize_27 : decode cX1_trussSize 27 = .ok (.istore_n 3, 1) := by decide +kernel
theorem dX1_trussSize_28 : decode cX1_trussSize 28 = .ok (.iload_n 3, 1) := by decide +kernel
theorem dX1_trussSize_29 : decode cX1_trussSize 29 = .ok (.aload_n 0, 1) := by decide +kernel
theorem dX1_trussSize_30 : decode cX1_trussSize 30 = .ok (.getfield 29, 3) := by decide +kernel
theorem dX1_trussSize_33 : decode cX1_trussSize 33 = .ok (.if_icmp .ge 21, 3) := by decide +kernel
theorem dX1_trussSize_36 : decode cX1_trussSize 36 = .ok (.iload_n 2, 1) := by decide +kernel
theorem dX1_trussSize_37 : decode cX1_trussSize 37 = .ok (.aload_n 0, 1) := by decide +kernel
theorem dX1_trussSize_38 : decode cX1_trussSize 38 = .ok (.getfield 19, 3) := by decide +kernel
theorem dX1_trussSize_41 : decode cX1_trussSize 41 = .ok (.iload_n 3, 1) := by decide +kernel
theorem dX1_trussSize_42 : decode cX1_trussSize 42 = .ok (.iaload, 1) := by decide +kernel
theorem dX1_trussSize_43 : decode cX1_trussSize 43 = .ok (.invokestatic 40, 3) := by decide +kernel
theorem dX1_trussSize_46 : decode cX1_trussSize 46 = .ok (.iadd, 1) := by decide +kernel
theorem dX1_trussSize_47 : decode cX1_trussSize 47 = .ok (.istore_n 2, 1) := by decide +kernel
theorem dX1_trussSize_48 : decode cX1_trussSize 48 = .ok (.iinc 3 1, 3) := by decide +kernel
theorem dX1_trussSize_51 : decode cX1_trussSize 51 = .ok (.goto (-23), 3) := by decide +kernel
theorem dX1_trussSize_54 : decode cX1_trussSize 54 = .ok (.iload_n 2, 1) := by decide +kernel
theorem dX1_trussSize_55 : decode cX1_trussSize 55 = .ok (.iconst 2, 1) := by decide +kernel
theorem dX1_trussSize_56 : decode cX1_trussSize 56 = .ok (.idiv, 1) := by decide +kernel
theorem dX1_trussSize_57 : decode cX1_trussSize 57 = .ok (.ireturn, 1) := by decide +kernel
theorem dJ6_bitCount_0f7a4_0 : decode cJ6_bitCount_0f7a4 0 = .ok (.iload_n 0, 1) := by decide +kernel
theorem dJ6_bitCount_0f7a4_1 : decode cJ6_bitCount_0f7a4 1 = .ok (.iload_n 0, 1) := by decide +kernel
theorem dJ6_bitCount_0f7a4_2 : decode cJ6_bitCount_0f7a4 2 = .ok (.iconst 1, 1) := by decide +kernel
theorem dJ6_bitCount_0f7a4_3 : decode cJ6_bitCount_0f7a4 3 = .ok (.iushr, 1) := by decide +kernel
theorem dJ6_bitCount_0f7a4_4 : decode cJ6_bitCount_0f7a4 4 = .ok (.ldc_w 265, 3) := by decide +kernel
theorem dJ6_bitCount_0f7a4_7 : decode cJ6_bitCount_0f7a4 7 = .ok (.iand, 1) := by decide +kernel
theorem dJ6_bitCount_0f7a4_8 : decode cJ6_bitCount_0f7a4 8 = .ok (.isub, 1) := by decide +kernel
theorem dJ6_bitCount_0f7a4_9 : decode cJ6_bitCount_0f7a4 9 = .ok (.istore_n 0, 1) := by decide +kernel
theorem dJ6_bitCount_0f7a4_10 : decode cJ6_bitCount_0f7a4 10 = .ok (.iload_n 0, 1) := by decide +kernel
theorem dJ6_bitCount_0f7a4_11 : decode cJ6_bitCount_0f7a4 11 = .ok (.ldc_w 266, 3) := by decide +kernel
theorem dJ6_bitCount_0f7a4_14 : decode cJ6_bitCount_0f7a4 14 = .ok (.iand, 1) := by decide +kernel
theorem dJ6_bitCount_0f7a4_15 : decode cJ6_bitCount_0f7a4 15 = .ok (.iload_n 0, 1) := by decide +kernel
theorem dJ6_bitCount_0f7a4_16 : decode cJ6_bitCount_0f7a4 16 = .ok (.iconst 2, 1) := by decide +kernel
theorem dJ6_bitCount_0f7a4_17 : decode cJ6_bitCount_0f7a4 17 = .ok (.iushr, 1) := by decide +kernel
theorem dJ6_bitCount_0f7a4_18 : decode cJ6_bitCount_0f7a4 18 = .ok (.ldc_w 266, 3) := by decide +kernel
theorem dJ6_bitCount_0f7a4_21 : decode cJ6_bitCount_0f7a4 21 = .ok (.iand, 1) := by decide +kernel
theorem dJ6_bitCount_0f7a4_22 : decode cJ6_bitCount_0f7a4 22 = .ok (.iadd, 1) := by decide +kernel
theorem dJ6_bitCount_0f7a4_23 : decode cJ6_bitCount_0f7a4 23 = .ok (.istore_n 0, 1) := by decide +kernel
theorem dJ6_bitCount_0f7a4_24 : decode cJ6_bitCount_0f7a4 24 = .ok (.iload_n 0, 1) := by decide +kernel
theorem dJ6_bitCount_0f7a4_25 : decode cJ6_bitCount_0f7a4 25 = .ok (.iload_n 0, 1) := by decide +kernel
theorem dJ6_bitCount_0f7a4_26 : decode cJ6_bitCount_0f7a4 26 = .ok (.iconst 4, 1) := by decide +kernel
theorem dJ6_bitCount_0f7a4_27 : decode cJ6_bitCount_0f7a4 27 = .ok (.iushr, 1) := by decide +kernel
theorem dJ6_bitCount_0f7a4_28 : decode cJ6_bitCount_0f7a4 28 = .ok (.iadd, 1) := by decide +kernel
theorem dJ6_bitCount_0f7a4_29 : decode cJ6_bitCount_0f7a4 29 = .ok (.ldc_w 267, 3) := by decide +kernel
theorem dJ6_bitCount_0f7a4_32 : decode cJ6_bitCount_0f7a4 32 = .ok (.iand, 1) := by decide +kernel
theorem dJ6_bitCount_0f7a4_33 : decode cJ6_bitCount_0f7a4 33 = .ok (.istore_n 0, 1) := by decide +kernel
theorem dJ6_bitCount_0f7a4_34 : decode cJ6_bitCount_0f7a4 34 = .ok (.iload_n 0, 1) := by decide +kernel
theorem dJ6_bitCount_0f7a4_35 : decode cJ6_bitCount_0f7a4 35 = .ok (.iload_n 0, 1) := by decide +kernel
theorem dJ6_bitCount_0f7a4_36 : decode cJ6_bitCount_0f7a4 36 = .ok (.bipush 8, 2) := by decide +kernel
theorem dJ6_bitCount_0f7a4_38 : decode cJ6_bitCount_0f7a4 38 = .ok (.iushr, 1) := by decide +kernel
theorem dJ6_bitCount_0f7a4_39 : decode cJ6_bitCount_0f7a4 39 = .ok (.iadd, 1) := by decide +kernel
theorem dJ6_bitCount_0f7a4_40 : decode cJ6_bitCount_0f7a4 40 = .ok (.istore_n 0, 1) := by decide +kernel
theorem dJ6_bitCount_0f7a4_41 : decode cJ6_bitCount_0f7a4 41 = .ok (.iload_n 0, 1) := by decide +kernel
theorem dJ6_bitCount_0f7a4_42 : decode cJ6_bitCount_0f7a4 42 = .ok (.iload_n 0, 1) := by decide +kernel
theorem dJ6_bitCount_0f7a4_43 : decode cJ6_bitCount_0f7a4 43 = .ok (.bipush 16, 2) := by decide +kernel
theorem dJ6_bitCount_0f7a4_45 : decode cJ6_bitCount_0f7a4 45 = .ok (.iushr, 1) := by decide +kernel
theorem dJ6_bitCount_0f7a4_46 : decode cJ6_bitCount_0f7a4 46 = .ok (.iadd, 1) := by decide +kernel
theorem dJ6_bitCount_0f7a4_47 : decode cJ6_bitCount_0f7a4 47 = .ok (.istore_n 0, 1) := by decide +kernel
theorem dJ6_bitCount_0f7a4_48 : decode cJ6_bitCount_0f7a4 48 = .ok (.iload_n 0, 1) := by decide +kernel
theorem dJ6_bitCount_0f7a4_49 : decode cJ6_bitCount_0f7a4 49 = .ok (.bipush 63, 2) := by decide +kernel
theorem dJ6_bitCount_0f7a4_51 : decode cJ6_bitCount_0f7a4 51 = .ok (.iand, 1) := by decide +kernel
theorem dJ6_bitCount_0f7a4_52 : decode cJ6_bitCount_0f7a4 52 = .ok (.ireturn, 1) := by decide +kernel
theorem dJ9_max_7cf53_0 : decode cJ9_max_7cf53 0 = .ok (.iload_n 0, 1) := by decide +kernel
theorem dJ9_max_7cf53_1 : decode cJ9_max_7cf53 1 = .ok (.iload_n 1, 1) := by decide +kernel
theorem dJ9_max_7cf53_2 : decode cJ9_max_7cf53 2 = .ok (.if_icmp .lt 7, 3) := by decide +kernel
theorem dJ9_max_7cf53_5 : decode cJ9_max_7cf53 5 = .ok (.iload_n 0, 1) := by decide +kernel
theorem dJ9_max_7cf53_6 : decode cJ9_max_7cf53 6 = .ok (.goto 4, 3) := by decide +kernel
theorem dJ9_max_7cf53_9 : decode cJ9_max_7cf53 9 = .ok (.iload_n 1, 1) := by decide +kernel
theorem dJ9_max_7cf53_10 : decode cJ9_max_7cf53 10 = .ok (.ireturn, 1) := by decide +kernel
theorem dJ9_min_7cf53_0 : decode cJ9_min_7cf53 0 = .ok (.iload_n 0, 1) := by decide +kernel
theorem dJ9_min_7cf53_1 : decode cJ9_min_7cf53 1 = .ok (.iload_n 1, 1) := by decide +kernel
theorem dJ9_min_7cf53_2 : decode cJ9_min_7cf53 2 = .ok (.if_icmp .gt 7, 3) := by decide +kernel
theorem dJ9_min_7cf53_5 : decode cJ9_min_7cf53 5 = .ok (.iload_n 0, 1) := by decide +kernel
theorem dJ9_min_7cf53_6 : decode cJ9_min_7cf53 6 = .ok (.goto 4, 3) := by decide +kernel
theorem dJ9_min_7cf53_9 : decode cJ9_min_7cf53 9 = .ok (.iload_n 1, 1) := by decide +kernel
theorem dJ9_min_7cf53_10 : decode cJ9_min_7cf53 10 = .ok (.ireturn, 1) := by decide +kernel
