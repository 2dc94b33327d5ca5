theorem dX0_edges_0 : decode cX0_edges 0 = .ok (.iload_n 3, 1) := by decide +kernel
theorem dX0_edges_1 : decode cX0_edges 1 = .ok (.invokestatic 9, 3) := by decide +kernel
theorem dX0_edges_4 : decode cX0_edges 4 = .ok (.iload_n 2, 1) := by decide +kernel
theorem dX0_edges_5 : decode cX0_edges 5 = .ok (.iconst (-1), 1) := by decide +kernel
theorem dX0_edges_6 : decode cX0_edges 6 = .ok (.ixor, 1) := by decide +kernel
theorem dX0_edges_7 : decode cX0_edges 7 = .ok (.iand, 1) := by decide +kernel
theorem dX0_edges_8 : decode cX0_edges 8 = .ok (.istore 4, 2) := by decide +kernel
theorem dX0_edges_10 : decode cX0_edges 10 = .ok (.iload_n 0, 1) := by decide +kernel
theorem dX0_edges_11 : decode cX0_edges 11 = .ok (.ifCond .ne 10, 3) := by decide +kernel
theorem dX0_edges_14 : decode cX0_edges 14 = .ok (.iload_n 2, 1) := by decide +kernel
theorem dX0_edges_15 : decode cX0_edges 15 = .ok (.iload 4, 2) := by decide +kernel
theorem dX0_edges_17 : decode cX0_edges 17 = .ok (.invokestatic 15, 3) := by decide +kernel
theorem dX0_edges_20 : decode cX0_edges 20 = .ok (.ireturn, 1) := by decide +kernel
theorem dX0_edges_21 : decode cX0_edges 21 = .ok (.iload_n 0, 1) := by decide +kernel
theorem dX0_edges_22 : decode cX0_edges 22 = .ok (.iconst 1, 1) := by decide +kernel
theorem dX0_edges_23 : decode cX0_edges 23 = .ok (.if_icmp .ne 22, 3) := by decide +kernel
theorem dX0_edges_26 : decode cX0_edges 26 = .ok (.iload 4, 2) := by decide +kernel
theorem dX0_edges_28 : decode cX0_edges 28 = .ok (.ifCond .eq 11, 3) := by decide +kernel
theorem dX0_edges_31 : decode cX0_edges 31 = .ok (.iload 4, 2) := by decide +kernel
theorem dX0_edges_33 : decode cX0_edges 33 = .ok (.invokestatic 21, 3) := by decide +kernel
theorem dX0_edges_36 : decode cX0_edges 36 = .ok (.goto 4, 3) := by decide +kernel
theorem dX0_edges_39 : decode cX0_edges 39 = .ok (.iload_n 1, 1) := by decide +kernel
theorem dX0_edges_40 : decode cX0_edges 40 = .ok (.iload_n 3, 1) := by decide +kernel
theorem dX0_edges_41 : decode cX0_edges 41 = .ok (.invokestatic 24, 3) := by decide +kernel
theorem dX0_edges_44 : decode cX0_edges 44 = .ok (.ireturn, 1) := by decide +kernel
theorem dX0_edges_45 : decode cX0_edges 45 = .ok (.iload_n 2, 1) := by decide +kernel
theorem dX0_edges_46 : decode cX0_edges 46 = .ok (.invokestatic 29, 3) := by decide +kernel
theorem dX0_edges_49 : decode cX0_edges 49 = .ok (.iload 4, 2) := by decide +kernel
theorem dX0_edges_51 : decode cX0_edges 51 = .ok (.invokestatic 29, 3) := by decide +kernel
theorem dX0_edges_54 : decode cX0_edges 54 = .ok (.ior, 1) := by decide +kernel
theorem dX0_edges_55 : decode cX0_edges 55 = .ok (.iload_n 2, 1) := by decide +kernel
theorem dX0_edges_56 : decode cX0_edges 56 = .ok (.iload 4, 2) := by decide +kernel
theorem dX0_edges_58 : decode cX0_edges 58 = .ok (.invokestatic 32, 3) := by decide +kernel
theorem dX0_edges_61 : decode cX0_edges 61 = .ok (.ior, 1) := by decide +kernel
theorem dX0_edges_62 : decode cX0_edges 62 = .ok (.ireturn, 1) := by decide +kernel
set_option maxRecDepth 20000 in
theorem ggX0_path_X0_chain : GoodIn wsX0_path wsX0_chain := goodIn_r _ [4, 5, 6, 7, 8, 9, 10, 11, 12] (by decide +kernel) (by decide +kernel)
set_option maxRecDepth 20000 in
theorem gX0_path_X0_chain : GoodIn wsX0_path (va_wsS RX0 35 yX0_chain wsX0_chain) := goodIn_app (goodIn_of _ (by decide +kernel)) ggX0_path_X0_chain
set_option maxRecDepth 20000 in
theorem ggX0_path_X0_bridge : GoodIn wsX0_path wsX0_bridge := goodIn_r _ [15, 16, 17, 7, 18, 19, 6, 8, 20, 21, 22, 9, 10, 11, 12] (by decide +kernel) (by decide +kernel)
set_option maxRecDepth 20000 in
theorem gX0_path_X0_bridge : GoodIn wsX0_path (va_wsS RX0 32 yX0_bridge wsX0_bridge) := goodIn_app (goodIn_of _ (by decide +kernel)) ggX0_path_X0_bridge
theorem dX0_path_0 : decode cX0_path 0 = .ok (.iload_n 0, 1) := by decide +kernel
theorem dX0_path_1 : decode cX0_path 1 = .ok (.invokestatic 35, 3) := by decide +kernel
theorem dX0_path_4 : decode cX0_path 4 = .ok (.iload_n 1, 1) := by decide +kernel
theorem dX0_path_5 : decode cX0_path 5 = .ok (.invokestatic 35, 3) := by decide +kernel
theorem dX0_path_8 : decode cX0_path 8 = .ok (.ior, 1) := by decide +kernel
theorem dX0_path_9 : decode cX0_path 9 = .ok (.iload_n 0, 1) := by decide +kernel
theorem dX0_path_10 : decode cX0_path 10 = .ok (.iload_n 1, 1) := by decide +kernel
theorem dX0_path_11 : decode cX0_path 11 = .ok (.invokestatic 32, 3) := by decide +kernel
theorem dX0_path_14 : decode cX0_path 14 = .ok (.ior, 1) := by decide +kernel
theorem dX0_path_15 : decode cX0_path 15 = .ok (.ireturn, 1) := by decide +kernel
set_option maxRecDepth 20000 in
theorem ggX0_chain_X6_has : GoodIn wsX0_chain wsX6_has := goodIn_r _ [4] (by decide +kernel) (by decide +kernel)
set_option maxRecDepth 20000 in
theorem gX0_chain_X6_has : GoodIn wsX0_chain (va_wsS RX0 38 yX6_has wsX6_has) := goodIn_app (goodIn_of _ (by decide +kernel)) ggX0_chain_X6_has
set_option maxRecDepth 20000 in
theorem ggX0_chain_X2_between : GoodIn wsX0_chain wsX2_between := goodIn_r _ [8] (by decide +kernel) (by decide +kernel)
set_option maxRecDepth 20000 in
theorem gX0_chain_X2_between : GoodIn wsX0_chain (va_wsS RX0 42 yX2_between wsX2_between) := goodIn_app (goodIn_of _ (by decide +kernel)) ggX0_chain_X2_between
theorem dX0_chain_0 : decode cX0_chain 0 = .ok (.iconst 0, 1) := by decide +kernel
theorem dX0_chain_1 : decode cX0_chain 1 = .ok (.istore_n 1, 1) := by decide +kernel
theorem dX0_chain_2 : decode cX0_chain 2 = .ok (.iconst (-1), 1) := by decide +kernel
theorem dX0_chain_3 : decode cX0_chain 3 = .ok (.istore_n 2, 1) := by decide +kernel
theorem dX0_chain_4 : decode cX0_chain 4 = .ok (.iconst 0, 1) := by decide +kernel
theorem dX0_chain_5 : decode cX0_chain 5 = .ok (.istore_n 3, 1) := by decide +kernel
theorem dX0_chain_6 : decode cX0_chain 6 = .ok (.iload_n 3, 1) := by decide +kernel
theorem dX0_chain_7 : decode cX0_chain 7 = .ok (.bipush 8, 2) := by decide +kernel
theorem dX0_chain_9 : decode cX0_chain 9 = .ok (.if_icmp .ge 36, 3) := by decide +kernel
theorem dX0_chain_12 : decode cX0_chain 12 = .ok (.iload_n 0, 1) := by decide +kernel
theorem dX0_chain_13 : decode cX0_chain 13 = .ok (.iload_n 3, 1) := by decide +kernel
theorem dX0_chain_14 : decode cX0_chain 14 = .ok (.invokestatic 38, 3) := by decide +kernel
theorem dX0_chain_17 : decode cX0_chain 17 = .ok (.ifCond .eq 22, 3) := by decide +kernel
theorem dX0_chain_20 : decode cX0_chain 20 = .ok (.iload_n 1, 1) := by decide +kernel
theorem dX0_chain_21 : decode cX0_chain 21 = .ok (.iload_n 2, 1) := by decide +kernel
theorem dX0_chain_22 : decode cX0_chain 22 = .ok (.iconst (-1), 1) := by decide +kernel
theorem dX0_chain_23 : decode cX0_chain 23 = .ok (.if_icmp .eq 11, 3) := by decide +kernel
theorem dX0_chain_26 : decode cX0_chain 26 = .ok (.iload_n 2, 1) := by decide +kernel
theorem dX0_chain_27 : decode cX0_chain 27 = .ok (.iload_n 3, 1) := by decide +kernel
theorem dX0_chain_28 : decode cX0_chain 28 = .ok (.invokestatic 42, 3) := by decide +kernel
theorem dX0_chain_31 : decode cX0_chain 31 = .ok (.goto 4, 3) := by decide +kernel
theorem dX0_chain_34 : decode cX0_chain 34 = .ok (.iconst 0, 1) := by decide +kernel
theorem dX0_chain_35 : decode cX0_chain 35 = .ok (.ior, 1) := by decide +kernel
theorem dX0_chain_36 : decode cX0_chain 36 = .ok (.istore_n 1, 1) := by decide +kernel
theorem dX0_chain_37 : decode cX0_chain 37 = .ok (.iload_n 3, 1) := by decide +kernel
theorem dX0_chain_38 : decode cX0_chain 38 = .ok (.istore_n 2, 1) := by decide +kernel
theorem dX0_chain_39 : decode cX0_chain 39 = .ok (.iinc 3 1, 3) := by decide +kernel
theorem dX0_chain_42 : decode cX0_chain 42 = .ok (.goto (-36), 3) := by decide +kernel
theorem dX0_chain_45 : decode cX0_chain 45 = .ok (.iload_n 1, 1) := by decide +kernel
theorem dX0_chain_46 : decode cX0_chain 46 = .ok (.ireturn, 1) := by decide +kernel
set_option maxRecDepth 20000 in
theorem ggX0_bridge_X6_greatest : GoodIn wsX0_bridge wsX6_greatest := goodIn_r _ [4, 5, 6, 3, 7] (by decide +kernel) (by decide +kernel)
set_option maxRecDepth 20000 in
theorem gX0_bridge_X6_greatest : GoodIn wsX0_bridge (va_wsS RX0 45 yX6_greatest wsX6_greatest) := goodIn_app (goodIn_of _ (by decide +kernel)) ggX0_bridge_X6_greatest
set_option maxRecDepth 20000 in
theorem ggX0_bridge_X6_smallest : GoodIn wsX0_bridge wsX6_smallest := goodIn_r _ [10, 5, 6, 3, 7] (by decide +kernel) (by decide +kernel)
set_option maxRecDepth 20000 in
theorem gX0_bridge_X6_smallest : GoodIn wsX0_bridge (va_wsS RX0 21 yX6_smallest wsX6_smallest) := goodIn_app (goodIn_of _ (by decide +kernel)) ggX0_bridge_X6_smallest
set_option maxRecDepth 20000 in
theorem ggX0_bridge_X2_between : GoodIn wsX0_bridge wsX2_between := goodIn_r _ [14] (by decide +kernel) (by decide +kernel)
set_option maxRecDepth 20000 in
theorem gX0_bridge_X2_between : GoodIn wsX0_bridge (va_wsS RX0 42 yX2_between wsX2_between) := goodIn_app (goodIn_of _ (by decide +kernel)) ggX0_bridge_X2_between
theorem dX0_bridge_0 : decode cX0_bridge 0 = .ok (.iload_n 1, 1) := by decide +kernel
theorem dX0_bridge_1 : decode cX0_bridge 1 = .ok (.ifCond .ne 5, 3) := by decide +kernel
theorem dX0_bridge_4 : decode cX0_bridge 4 = .ok (.iconst 0, 1) := by decide +kernel
theorem dX0_bridge_5 : decode cX0_bridge 5 = .ok (.ireturn, 1) := by decide +kernel
theorem dX0_bridge_6 : decode cX0_bridge 6 = .ok (.iload_n 0, 1) := by decide +kernel
theorem dX0_bridge_7 : decode cX0_bridge 7 = .ok (.invokestatic 45, 3) := by decide +kernel
theorem dX0_bridge_10 : decode cX0_bridge 10 = .ok (.iload_n 1, 1) := by decide +kernel
theorem dX0_bridge_11 : decode cX0_bridge 11 = .ok (.invokestatic 21, 3) := by decide +kernel
theorem dX0_bridge_14 : decode cX0_bridge 14 = .ok (.invokestatic 42, 3) := by decide +kernel
theorem dX0_bridge_17 : decode cX0_bridge 17 = .ok (.ireturn, 1) := by decide +kernel
theorem dX1_init_0 : decode cX1_init 0 = .ok (.aload_n 0, 1) := by decide +kernel
theorem dX1_init_1 : decode cX1_init 1 = .ok (.invokespecial 3, 3) := by decide +kernel
theorem dX1_init_4 : decode cX1_init 4 = .ok (.aload_n 0, 1) := by decide +kernel
theorem dX1_init_5 : decode cX1_init 5 = .ok (.bipush 8, 2) := by decide +kernel
theorem dX1_init_7 : decode cX1_init 7 = .ok (.newarray .int, 2) := by decide +kernel
theorem dX1_init_9 : decode cX1_init 9 = .ok (.putfield 9, 3) := by decide +kernel
theorem dX1_init_12 : decode cX1_init 12 = .ok (.aload_n 0, 1) := by decide +kernel
theorem dX1_init_13 : decode cX1_init 13 = .ok (.aload_n 1, 1) := by decide +kernel
theorem dX1_init_14 : decode cX1_init 14 = .ok (.putfield 15, 3) := by decide +kernel
theorem dX1_init_17 : decode cX1_init 17 = .ok (.aload_n 0, 1) := by decide +kernel
theorem dX1_init_18 : decode cX1_init 18 = .ok (.aload_n 2, 1) := by decide +kernel
theorem dX1_init_19 : decode cX1_init 19 = .ok (.putfield 19, 3) := by decide +kernel
theorem dX1_init_22 : decode cX1_init 22 = .ok (.return_, 1) := by decide +kernel
set_option maxRecDepth 20000 in
theorem ggX1_run_X1_allHaveAnswers : GoodIn wsX1_run wsX1_allHaveAnswers := goodIn_r _ [7, 8, 2, 9, 10, 11, 12, 13, 14, 89, 90, 91, 92, 93, 94, 95, 96] (by decide +kernel) (by decide +kernel)
set_option maxRecDepth 20000 in
theorem gX1_run_X1_allHaveAnswers : GoodIn wsX1_run (wsV RX1 27 RX1 yX1_allHaveAnswers wsX1_allHaveAnswers) := goodIn_app (goodIn_of _ (by decide +kernel)) ggX1_run_X1_allHaveAnswers
set_option maxRecDepth 20000 in
theorem ggX1_run_X1_runPhase : GoodIn wsX1_run wsX1_runPhase := goodIn_r _ [18, 19, 1, 8, 20, 21, 22, 23, 24, 25, 26, 27, 28, 29, 30, 31, 32, 33, 34, 35, 36, 37, 38, 39, 40, 41, 42, 43, 12, 44, 45, 46, 47, 10, 11, 13, 14, 48, 49, 50, 51, 52, 53, 54, 55, 56, 57, 6, 58, 9, 59, 60, 61, 62, 63, 64, 65, 66, 67, 68, 69, 70, 71, 72, 73, 74, 75, 76, 77, 78, 79, 80, 81, 82, 83, 84, 85, 86, 87, 2, 88, 89, 90, 91, 92, 97, 98, 99, 100, 93, 94, 95, 96] (by decide +kernel) (by decide +kernel)
set_option maxRecDepth 20000 in
theorem gX1_run_X1_runPhase : GoodIn wsX1_run (wsV RX1 31 RX1 yX1_runPhase wsX1_runPhase) := goodIn_app (goodIn_of _ (by decide +kernel)) ggX1_run_X1_runPhase
theorem dX1_run_0 : decode cX1_run 0 = .ok (.aload_n 0, 1) := by decide +kernel
theorem dX1_run_1 : decode cX1_run 1 = .ok (.iconst 0, 1) := by decide +kernel
theorem dX1_run_2 : decode cX1_run 2 = .ok (.putfield 23, 3) := by decide +kernel
theorem dX1_run_5 : decode cX1_run 5 = .ok (.iconst 0, 1) := by decide +kernel
theorem dX1_run_6 : decode cX1_run 6 = .ok (.istore_n 1, 1) := by decide +kernel
theorem dX1_run_7 : decode cX1_run 7 = .ok (.iload_n 1, 1) := by decide +kernel
theorem dX1_run_8 : decode cX1_run 8 = .ok (.bipush 8, 2) := by decide +kernel
theorem dX1_run_10 : decode cX1_run 10 = .ok (.if_icmp .ge 16, 3) := by decide +kernel
theorem dX1_run_13 : decode cX1_run 13 = .ok (.aload_n 0, 1) := by decide +kernel
theorem dX1_run_14 : decode cX1_run 14 = .ok (.getfield 9, 3) := by decide +kernel
theorem dX1_run_17 : decode cX1_run 17 = .ok (.iload_n 1, 1) := by decide +kernel
theorem dX1_run_18 : decode cX1_run 18 = .ok (.iconst 0, 1) := by decide +kernel
theorem dX1_run_19 : decode cX1_run 19 = .ok (.iastore, 1) := by decide +kernel
theorem dX1_run_20 : decode cX1_run 20 = .ok (.iinc 1 1, 3) := by decide +kernel
theorem dX1_run_23 : decode cX1_run 23 = .ok (.goto (-16), 3) := by decide +kernel
theorem dX1_run_26 : decode cX1_run 26 = .ok (.iconst 1, 1) := by decide +kernel
theorem dX1_run_27 : decode cX1_run 27 = .ok (.istore_n 1, 1) := by decide +kernel
theorem dX1_run_28 : decode cX1_run 28 = .ok (.iload_n 1, 1) := by decide +kernel
theorem dX1_run_29 : decode cX1_run 29 = .ok (.bipush 8, 2) := by decide +kernel
theorem dX1_run_31 : decode cX1_run 31 = .ok (.if_icmp .gt 22, 3) := by decide +kernel
theorem dX1_run_34 : decode cX1_run 34 = .ok (.aload_n 0, 1) := by decide +kernel
theorem dX1_run_35 : decode cX1_run 35 = .ok (.invokevirtual 27, 3) := by decide +kernel
theorem dX1_run_38 : decode cX1_run 38 = .ok (.ifCond .ne 15, 3) := by decide +kernel
theorem dX1_run_41 : decode cX1_run 41 = .ok (.aload_n 0, 1) := by decide +kernel
theorem dX1_run_42 : decode cX1_run 42 = .ok (.iload_n 1, 1) := by decide +kernel
theorem dX1_run_43 : decode cX1_run 43 = .ok (.invokevirtual 31, 3) := by decide +kernel
theorem dX1_run_46 : decode cX1_run 46 = .ok (.iload_n 1, 1) := by decide +kernel
theorem dX1_run_47 : decode cX1_run 47 = .ok (.iconst 2, 1) := by decide +kernel
theorem dX1_run_48 : decode cX1_run 48 = .ok (.imul, 1) := by decide +kernel
theorem dX1_run_49 : decode cX1_run 49 = .ok (.istore_n 1, 1) := by decide +kernel
theorem dX1_run_50 : decode cX1_run 50 = .ok (.goto (-22), 3) := by decide +kernel
theorem dX1_run_53 : decode cX1_run 53 = .ok (.return_, 1) := by decide +kernel
theorem dX1_steps_0 : decode cX1_steps 0 = .ok (.aload_n 0, 1) := by decide +kernel
theorem dX1_steps_1 : decode cX1_steps 1 = .ok (.getfield 23, 3) := by decide +kernel
theorem dX1_steps_4 : decode cX1_steps 4 = .ok (.ireturn, 1) := by decide +kernel
set_option maxRecDepth 20000 in
theorem ggX1_answerOf_X7_hasNode : GoodIn wsX1_answerOf wsX7_hasNode := goodIn_r _ [7, 8, 13, 14, 15, 16] (by decide +kernel) (by decide +kernel)
set_option maxRecDepth 20000 in
theorem gX1_answerOf_X7_hasNode : GoodIn wsX1_answerOf (wsV RX1 35 RX7 yX7_hasNode wsX7_hasNode) := goodIn_app (goodIn_of _ (by decide +kernel)) ggX1_answerOf_X7_hasNode
theorem dX1_answerOf_0 : decode cX1_answerOf 0 = .ok (.aload_n 0, 1) := by decide +kernel
theorem dX1_answerOf_1 : decode cX1_answerOf 1 = .ok (.getfield 15, 3) := by decide +kernel
theorem dX1_answerOf_4 : decode cX1_answerOf 4 = .ok (.iload_n 1, 1) := by decide +kernel
theorem dX1_answerOf_5 : decode cX1_answerOf 5 = .ok (.invokevirtual 35, 3) := by decide +kernel
theorem dX1_answerOf_8 : decode cX1_answerOf 8 = .ok (.ifCond .eq 12, 3) := by decide +kernel
theorem dX1_answerOf_11 : decode cX1_answerOf 11 = .ok (.aload_n 0, 1) := by decide +kernel
theorem dX1_answerOf_12 : decode cX1_answerOf 12 = .ok (.getfield 9, 3) := by decide +kernel
theorem dX1_answerOf_15 : decode cX1_answerOf 15 = .ok (.iload_n 1, 1) := by decide +kernel
theorem dX1_answerOf_16 : decode cX1_answerOf 16 = .ok (.iaload, 1) := by decide +kernel
theorem dX1_answerOf_17 : decode cX1_answerOf 17 = .ok (.goto 4, 3) := by decide +kernel
theorem dX1_answerOf_20 : decode cX1_answerOf 20 = .ok (.iconst 0, 1) := by decide +kernel
theorem dX1_answerOf_21 : decode cX1_answerOf 21 = .ok (.ireturn, 1) := by decide +kernel
set_option maxRecDepth 20000 in
theorem ggX1_wrongAnswers_X7_nodes : GoodIn wsX1_wrongAnswers wsX7_nodes := goodIn_r _ [7, 8, 13, 14, 15, 16] (by decide +kernel) (by decide +kernel)
set_option maxRecDepth 20000 in
theorem gX1_wrongAnswers_X7_nodes : GoodIn wsX1_wrongAnswers (wsV RX1 41 RX7 yX7_nodes wsX7_nodes) := goodIn_app (goodIn_of _ (by decide +kernel)) ggX1_wrongAnswers_X7_nodes
theorem dX1_wrongAnswers_0 : decode cX1_wrongAnswers 0 = .ok (.iconst 0, 1) := by decide +kernel
theorem dX1_wrongAnswers_1 : decode cX1_wrongAnswers 1 = .ok (.istore_n 1, 1) := by decide +kernel
theorem dX1_wrongAnswers_2 : decode cX1_wrongAnswers 2 = .ok (.iconst 0, 1) := by decide +kernel
theorem dX1_wrongAnswers_3 : decode cX1_wrongAnswers 3 = .ok (.istore_n 2, 1) := by decide +kernel
theorem dX1_wrongAnswers_4 : decode cX1_wrongAnswers 4 = .ok (.iload_n 2, 1) := by decide +kernel
theorem dX1_wrongAnswers_5 : decode cX1_wrongAnswers 5 = .ok (.aload_n 0, 1) := by decide +kernel
theorem dX1_wrongAnswers_6 : decode cX1_wrongAnswers 6 = .ok (.getfield 15, 3) := by decide +kernel
theorem dX1_wrongAnswers_9 : decode cX1_wrongAnswers 9 = .ok (.invokevirtual 41, 3) := by decide +kernel
theorem dX1_wrongAnswers_12 : decode cX1_wrongAnswers 12 = .ok (.if_icmp .ge 28, 3) := by decide +kernel
theorem dX1_wrongAnswers_15 : decode cX1_wrongAnswers 15 = .ok (.aload_n 0, 1) := by decide +kernel
theorem dX1_wrongAnswers_16 : decode cX1_wrongAnswers 16 = .ok (.getfield 9, 3) := by decide +kernel
theorem dX1_wrongAnswers_19 : decode cX1_wrongAnswers 19 = .ok (.iload_n 2, 1) := by decide +kernel
theorem dX1_wrongAnswers_20 : decode cX1_wrongAnswers 20 = .ok (.iaload, 1) := by decide +kernel
theorem dX1_wrongAnswers_21 : decode cX1_wrongAnswers 21 = .ok (.aload_n 0, 1) := by decide +kernel
theorem dX1_wrongAnswers_22 : decode cX1_wrongAnswers 22 = .ok (.getfield 15, 3) := by decide +kernel
theorem dX1_wrongAnswers_25 : decode cX1_wrongAnswers 25 = .ok (.invokevirtual 41, 3) := by decide +kernel
theorem dX1_wrongAnswers_28 : decode cX1_wrongAnswers 28 = .ok (.if_icmp .eq 6, 3) := by decide +kernel
theorem dX1_wrongAnswers_31 : decode cX1_wrongAnswers 31 = .ok (.iinc 1 1, 3) := by decide +kernel
theorem dX1_wrongAnswers_34 : decode cX1_wrongAnswers 34 = .ok (.iinc 2 1, 3) := by decide +kernel
theorem dX1_wrongAnswers_37 : decode cX1_wrongAnswers 37 = .ok (.goto (-33), 3) := by decide +kernel
theorem dX1_wrongAnswers_40 : decode cX1_wrongAnswers 40 = .ok (.iload_n 1, 1) := by decide +kernel
theorem dX1_wrongAnswers_41 : decode cX1_wrongAnswers 41 = .ok (.ireturn, 1) := by decide +kernel
set_option maxRecDepth 20000 in
theorem ggX1_runPhase_X3_begin : GoodIn wsX1_runPhase wsX3_begin := goodIn_r _ [8, 9, 10, 11, 12, 13, 14, 85, 86, 87, 88] (by decide +kernel) (by decide +kernel)
set_option maxRecDepth 20000 in
theorem gX1_runPhase_X3_begin : GoodIn wsX1_runPhase (wsV RX1 45 RX3 yX3_begin wsX3_begin) := goodIn_app (goodIn_of _ (by decide +kernel)) ggX1_runPhase_X3_begin
set_option maxRecDepth 20000 in
theorem ggX1_runPhase_X3_advanceBy : GoodIn wsX1_runPhase wsX3_advanceBy := goodIn_r _ [18, 19, 20, 21, 7, 22, 23, 9, 24, 10, 25, 26, 27, 28, 29, 30, 31, 32, 33, 34, 35, 36, 37, 38, 39, 40, 41, 42, 43, 85, 86, 87, 88, 89, 90, 91, 92] (by decide +kernel) (by decide +kernel)
set_option maxRecDepth 20000 in
theorem gX1_runPhase_X3_advanceBy : GoodIn wsX1_runPhase (wsV RX1 50 RX3 yX3_advanceBy wsX3_advanceBy) := goodIn_app (goodIn_of _ (by decide +kernel)) ggX1_runPhase_X3_advanceBy
set_option maxRecDepth 20000 in
theorem ggX1_runPhase_X1_nodesWithMoreThan : GoodIn wsX1_runPhase wsX1_nodesWithMoreThan := goodIn_r _ [48, 3, 1, 49, 33, 34, 28, 35, 36, 50, 51, 52, 7, 53, 23, 10, 54, 55, 56, 57, 58, 59, 60, 61, 62, 63, 64, 65, 12, 13, 14, 81, 82, 83, 84, 89, 90, 91, 92, 85, 86, 87, 88] (by decide +kernel) (by decide +kernel)
set_option maxRecDepth 20000 in
theorem gX1_runPhase_X1_nodesWithMoreThan : GoodIn wsX1_runPhase (wsV RX1 53 RX1 yX1_nodesWithMoreThan wsX1_nodesWithMoreThan) := goodIn_app (goodIn_of _ (by decide +kernel)) ggX1_runPhase_X1_nodesWithMoreThan
set_option maxRecDepth 20000 in
theorem ggX1_runPhase_X7_edgesAtStep : GoodIn wsX1_runPhase wsX7_edgesAtStep := goodIn_r _ [29, 30, 31, 89, 90, 91, 92] (by decide +kernel) (by decide +kernel)
set_option maxRecDepth 20000 in
theorem gX1_runPhase_X7_edgesAtStep : GoodIn wsX1_runPhase (wsV RX1 57 RX7 yX7_edgesAtStep wsX7_edgesAtStep) := goodIn_app (goodIn_of _ (by decide +kernel)) ggX1_runPhase_X7_edgesAtStep
set_option maxRecDepth 20000 in
theorem ggX1_runPhase_X7_nodes : GoodIn wsX1_runPhase wsX7_nodes := goodIn_r _ [35, 36, 89, 90, 91, 92] (by decide +kernel) (by decide +kernel)
set_option maxRecDepth 20000 in
theorem gX1_runPhase_X7_nodes : GoodIn wsX1_runPhase (wsV RX1 41 RX7 yX7_nodes wsX7_nodes) := goodIn_app (goodIn_of _ (by decide +kernel)) ggX1_runPhase_X7_nodes
set_option maxRecDepth 20000 in
theorem ggX1_runPhase_X2_spread : GoodIn wsX1_runPhase wsX2_spread := goodIn_r _ [69, 70, 38, 39, 40, 41, 42, 43, 71, 72, 13, 73, 74, 12, 14] (by decide +kernel) (by decide +kernel)
set_option maxRecDepth 20000 in
theorem gX1_runPhase_X2_spread : GoodIn wsX1_runPhase (va_wsS RX1 60 yX2_spread wsX2_spread) := goodIn_app (goodIn_of _ (by decide +kernel)) ggX1_runPhase_X2_spread
set_option maxRecDepth 20000 in
theorem ggX1_runPhase_X1_answerWithoutAlarm : GoodIn wsX1_runPhase wsX1_answerWithoutAlarm := goodIn_r _ [78, 3, 79, 1, 49, 33, 34, 28, 35, 36, 80, 72, 13, 73, 50, 51, 52, 7, 53, 23, 10, 54, 55, 56, 57, 58, 59, 60, 61, 62, 63, 64, 81, 82, 83, 84, 89, 90, 91, 92, 85, 86, 87, 88] (by decide +kernel) (by decide +kernel)
set_option maxRecDepth 20000 in
theorem gX1_runPhase_X1_answerWithoutAlarm : GoodIn wsX1_runPhase (wsV RX1 66 RX1 yX1_answerWithoutAlarm wsX1_answerWithoutAlarm) := goodIn_app (goodIn_of _ (by decide +kernel)) ggX1_runPhase_X1_answerWithoutAlarm
theorem dX1_runPhase_0 : decode cX1_runPhase 0 = .ok (.aload_n 0, 1) := by decide +kernel
theorem dX1_runPhase_1 : decode cX1_runPhase 1 = .ok (.getfield 19, 3) := by decide +kernel
theorem dX1_runPhase_4 : decode cX1_runPhase 4 = .ok (.aload_n 0, 1) := by decide +kernel
theorem dX1_runPhase_5 : decode cX1_runPhase 5 = .ok (.getfield 23, 3) := by decide +kernel
theorem dX1_runPhase_8 : decode cX1_runPhase 8 = .ok (.invokevirtual 45, 3) := by decide +kernel
theorem dX1_runPhase_11 : decode cX1_runPhase 11 = .ok (.aload_n 0, 1) := by decide +kernel
theorem dX1_runPhase_12 : decode cX1_runPhase 12 = .ok (.getfield 19, 3) := by decide +kernel
theorem dX1_runPhase_15 : decode cX1_runPhase 15 = .ok (.iload_n 1, 1) := by decide +kernel
theorem dX1_runPhase_16 : decode cX1_runPhase 16 = .ok (.invokevirtual 50, 3) := by decide +kernel
theorem dX1_runPhase_19 : decode cX1_runPhase 19 = .ok (.aload_n 0, 1) := by decide +kernel
theorem dX1_runPhase_20 : decode cX1_runPhase 20 = .ok (.iload_n 1, 1) := by decide +kernel
theorem dX1_runPhase_21 : decode cX1_runPhase 21 = .ok (.invokevirtual 53, 3) := by decide +kernel
theorem dX1_runPhase_24 : decode cX1_runPhase 24 = .ok (.istore_n 2, 1) := by decide +kernel
theorem dX1_runPhase_25 : decode cX1_runPhase 25 = .ok (.iload_n 1, 1) := by decide +kernel
theorem dX1_runPhase_26 : decode cX1_runPhase 26 = .ok (.istore_n 3, 1) := by decide +kernel
theorem dX1_runPhase_27 : decode cX1_runPhase 27 = .ok (.iload_n 3, 1) := by decide +kernel
theorem dX1_runPhase_28 : decode cX1_runPhase 28 = .ok (.iconst 2, 1) := by decide +kernel
theorem dX1_runPhase_29 : decode cX1_runPhase 29 = .ok (.iload_n 1, 1) := by decide +kernel
theorem dX1_runPhase_30 : decode cX1_runPhase 30 = .ok (.imul, 1) := by decide +kernel
theorem dX1_runPhase_31 : decode cX1_runPhase 31 = .ok (.if_icmp .ge 38, 3) := by decide +kernel
theorem dX1_runPhase_34 : decode cX1_runPhase 34 = .ok (.aload_n 0, 1) := by decide +kernel
theorem dX1_runPhase_35 : decode cX1_runPhase 35 = .ok (.getfield 15, 3) := by decide +kernel
theorem dX1_runPhase_38 : decode cX1_runPhase 38 = .ok (.aload_n 0, 1) := by decide +kernel
theorem dX1_runPhase_39 : decode cX1_runPhase 39 = .ok (.getfield 23, 3) := by decide +kernel
theorem dX1_runPhase_42 : decode cX1_runPhase 42 = .ok (.iload_n 3, 1) := by decide +kernel
theorem dX1_runPhase_43 : decode cX1_runPhase 43 = .ok (.iadd, 1) := by decide +kernel
theorem dX1_runPhase_44 : decode cX1_runPhase 44 = .ok (.invokevirtual 57, 3) := by decide +kernel
theorem dX1_runPhase_47 : decode cX1_runPhase 47 = .ok (.istore 4, 2) := by decide +kernel
theorem dX1_runPhase_49 : decode cX1_runPhase 49 = .ok (.iload 4, 2) := by decide +kernel
theorem dX1_runPhase_51 : decode cX1_runPhase 51 = .ok (.iload_n 2, 1) := by decide +kernel
theorem dX1_runPhase_52 : decode cX1_runPhase 52 = .ok (.aload_n 0, 1) := by decide +kernel
theorem dX1_runPhase_53 : decode cX1_runPhase 53 = .ok (.getfield 15, 3) := by decide +kernel
theorem dX1_runPhase_56 : decode cX1_runPhase 56 = .ok (.invokevirtual 41, 3) := by decide +kernel
theorem dX1_runPhase_59 : decode cX1_runPhase 59 = .ok (.invokestatic 60, 3) := by decide +kernel
theorem dX1_runPhase_62 : decode cX1_runPhase 62 = .ok (.istore_n 2, 1) := by decide +kernel
theorem dX1_runPhase_63 : decode cX1_runPhase 63 = .ok (.iinc 3 1, 3) := by decide +kernel
theorem dX1_runPhase_66 : decode cX1_runPhase 66 = .ok (.goto (-39), 3) := by decide +kernel
theorem dX1_runPhase_69 : decode cX1_runPhase 69 = .ok (.aload_n 0, 1) := by decide +kernel
theorem dX1_runPhase_70 : decode cX1_runPhase 70 = .ok (.dup, 1) := by decide +kernel
theorem dX1_runPhase_71 : decode cX1_runPhase 71 = .ok (.getfield 23, 3) := by decide +kernel
theorem dX1_runPhase_74 : decode cX1_runPhase 74 = .ok (.iconst 2, 1) := by decide +kernel
theorem dX1_runPhase_75 : decode cX1_runPhase 75 = .ok (.iload_n 1, 1) := by decide +kernel
theorem dX1_runPhase_76 : decode cX1_runPhase 76 = .ok (.imul, 1) := by decide +kernel
theorem dX1_runPhase_77 : decode cX1_runPhase 77 = .ok (.iadd, 1) := by decide +kernel
theorem dX1_runPhase_78 : decode cX1_runPhase 78 = .ok (.putfield 23, 3) := by decide +kernel
theorem dX1_runPhase_81 : decode cX1_runPhase 81 = .ok (.aload_n 0, 1) := by decide +kernel
theorem dX1_runPhase_82 : decode cX1_runPhase 82 = .ok (.iload_n 2, 1) := by decide +kernel
theorem dX1_runPhase_83 : decode cX1_runPhase 83 = .ok (.invokevirtual 66, 3) := by decide +kernel
theorem dX1_runPhase_86 : decode cX1_runPhase 86 = .ok (.return_, 1) := by decide +kernel
set_option maxRecDepth 20000 in
theorem ggX1_nodesWithMoreThan_X7_nodes : GoodIn wsX1_nodesWithMoreThan wsX7_nodes := goodIn_r _ [7, 8, 35, 36, 37, 38] (by decide +kernel) (by decide +kernel)
set_option maxRecDepth 20000 in
theorem gX1_nodesWithMoreThan_X7_nodes : GoodIn wsX1_nodesWithMoreThan (wsV RX1 41 RX7 yX7_nodes wsX7_nodes) := goodIn_app (goodIn_of _ (by decide +kernel)) ggX1_nodesWithMoreThan_X7_nodes
set_option maxRecDepth 20000 in
theorem ggX1_nodesWithMoreThan_X3_tokensOf : GoodIn wsX1_nodesWithMoreThan wsX3_tokensOf := goodIn_r _ [13, 14, 15, 16, 17, 18, 6, 19, 8, 39, 40, 41, 42, 35, 36, 37, 38] (by decide +kernel) (by decide +kernel)
set_option maxRecDepth 20000 in
theorem gX1_nodesWithMoreThan_X3_tokensOf : GoodIn wsX1_nodesWithMoreThan (wsV RX1 69 RX3 yX3_tokensOf wsX3_tokensOf) := goodIn_app (goodIn_of _ (by decide +kernel)) ggX1_nodesWithMoreThan_X3_tokensOf
set_option maxRecDepth 20000 in
theorem ggX1_nodesWithMoreThan_J6_bitCount_0f7a4 : GoodIn wsX1_nodesWithMoreThan wsJ6_bitCount_0f7a4 := goodIn_r _ [23, 24, 25, 26] (by decide +kernel) (by decide +kernel)
set_option maxRecDepth 20000 in
theorem gX1_nodesWithMoreThan_J6_bitCount_0f7a4 : GoodIn wsX1_nodesWithMoreThan (va_wsS RX1 72 yJ6_bitCount_0f7a4 wsJ6_bitCount_0f7a4) := goodIn_app (goodIn_of _ (by decide +kernel)) ggX1_nodesWithMoreThan_J6_bitCount_0f7a4
set_option maxRecDepth 20000 in
theorem ggX1_nodesWithMoreThan_X6_of : GoodIn wsX1_nodesWithMoreThan wsX6_of := goodIn_r _ [30] (by decide +kernel) (by decide +kernel)
set_option maxRecDepth 20000 in
theorem gX1_nodesWithMoreThan_X6_of : GoodIn wsX1_nodesWithMoreThan (va_wsS RX1 77 yX6_of wsX6_of) := goodIn_app (goodIn_of _ (by decide +kernel)) ggX1_nodesWithMoreThan_X6_of
theorem dX1_nodesWithMoreThan_0 : decode cX1_nodesWithMoreThan 0 = .ok (.iconst 0, 1) := by decide +kernel
theorem dX1_nodesWithMoreThan_1 : decode cX1_nodesWithMoreThan 1 = .ok (.istore_n 2, 1) := by decide +kernel
theorem dX1_nodesWithMoreThan_2 : decode cX1_nodesWithMoreThan 2 = .ok (.iconst 0, 1) := by decide +kernel
theorem dX1_nodesWithMoreThan_3 : decode cX1_nodesWithMoreThan 3 = .ok (.istore_n 3, 1) := by decide +kernel
theorem dX1_nodesWithMoreThan_4 : decode cX1_nodesWithMoreThan 4 = .ok (.iload_n 3, 1) := by decide +kernel
theorem dX1_nodesWithMoreThan_5 : decode cX1_nodesWithMoreThan 5 = .ok (.aload_n 0, 1) := by decide +kernel
theorem dX1_nodesWithMoreThan_6 : decode cX1_nodesWithMoreThan 6 = .ok (.getfield 15, 3) := by decide +kernel
theorem dX1_nodesWithMoreThan_9 : decode cX1_nodesWithMoreThan 9 = .ok (.invokevirtual 41, 3) := by decide +kernel
theorem dX1_nodesWithMoreThan_12 : decode cX1_nodesWithMoreThan 12 = .ok (.if_icmp .ge 31, 3) := by decide +kernel
theorem dX1_nodesWithMoreThan_15 : decode cX1_nodesWithMoreThan 15 = .ok (.aload_n 0, 1) := by decide +kernel
theorem dX1_nodesWithMoreThan_16 : decode cX1_nodesWithMoreThan 16 = .ok (.getfield 19, 3) := by decide +kernel
theorem dX1_nodesWithMoreThan_19 : decode cX1_nodesWithMoreThan 19 = .ok (.iload_n 3, 1) := by decide +kernel
theorem dX1_nodesWithMoreThan_20 : decode cX1_nodesWithMoreThan 20 = .ok (.invokevirtual 69, 3) := by decide +kernel
theorem dX1_nodesWithMoreThan_23 : decode cX1_nodesWithMoreThan 23 = .ok (.invokestatic 72, 3) := by decide +kernel
theorem dX1_nodesWithMoreThan_26 : decode cX1_nodesWithMoreThan 26 = .ok (.iload_n 1, 1) := by decide +kernel
theorem dX1_nodesWithMoreThan_27 : decode cX1_nodesWithMoreThan 27 = .ok (.if_icmp .le 10, 3) := by decide +kernel
theorem dX1_nodesWithMoreThan_30 : decode cX1_nodesWithMoreThan 30 = .ok (.iload_n 2, 1) := by decide +kernel
theorem dX1_nodesWithMoreThan_31 : decode cX1_nodesWithMoreThan 31 = .ok (.iload_n 3, 1) := by decide +kernel
theorem dX1_nodesWithMoreThan_32 : decode cX1_nodesWithMoreThan 32 = .ok (.invokestatic 77, 3) := by decide +kernel
theorem dX1_nodesWithMoreThan_35 : decode cX1_nodesWithMoreThan 35 = .ok (.ior, 1) := by decide +kernel
theorem dX1_nodesWithMoreThan_36 : decode cX1_nodesWithMoreThan 36 = .ok (.istore_n 2, 1) := by decide +kernel
theorem dX1_nodesWithMoreThan_37 : decode cX1_nodesWithMoreThan 37 = .ok (.iinc 3 1, 3) := by decide +kernel
theorem dX1_nodesWithMoreThan_40 : decode cX1_nodesWithMoreThan 40 = .ok (.goto (-36), 3) := by decide +kernel
theorem dX1_nodesWithMoreThan_43 : decode cX1_nodesWithMoreThan 43 = .ok (.iload_n 2, 1) := by decide +kernel
theorem dX1_nodesWithMoreThan_44 : decode cX1_nodesWithMoreThan 44 = .ok (.ireturn, 1) := by decide +kernel
set_option maxRecDepth 20000 in
theorem ggX1_answerWithoutAlarm_X7_nodes : GoodIn wsX1_answerWithoutAlarm wsX7_nodes := goodIn_r _ [8, 9, 36, 37, 38, 39] (by decide +kernel) (by decide +kernel)
set_option maxRecDepth 20000 in
theorem gX1_answerWithoutAlarm_X7_nodes : GoodIn wsX1_answerWithoutAlarm (wsV RX1 41 RX7 yX7_nodes wsX7_nodes) := goodIn_app (goodIn_of _ (by decide +kernel)) ggX1_answerWithoutAlarm_X7_nodes
set_option maxRecDepth 20000 in
theorem ggX1_answerWithoutAlarm_X6_has : GoodIn wsX1_answerWithoutAlarm wsX6_has := goodIn_r _ [13] (by decide +kernel) (by decide +kernel)
set_option maxRecDepth 20000 in
theorem gX1_answerWithoutAlarm_X6_has : GoodIn wsX1_answerWithoutAlarm (va_wsS RX1 82 yX6_has wsX6_has) := goodIn_app (goodIn_of _ (by decide +kernel)) ggX1_answerWithoutAlarm_X6_has
set_option maxRecDepth 20000 in
theorem ggX1_answerWithoutAlarm_X3_tokensOf : GoodIn wsX1_answerWithoutAlarm wsX3_tokensOf := goodIn_r _ [18, 19, 20, 21, 22, 23, 7, 24, 9, 40, 41, 42, 43, 36, 37, 38, 39] (by decide +kernel) (by decide +kernel)
set_option maxRecDepth 20000 in
theorem gX1_answerWithoutAlarm_X3_tokensOf : GoodIn wsX1_answerWithoutAlarm (wsV RX1 69 RX3 yX3_tokensOf wsX3_tokensOf) := goodIn_app (goodIn_of _ (by decide +kernel)) ggX1_answerWithoutAlarm_X3_tokensOf
set_option maxRecDepth 20000 in
theorem ggX1_answerWithoutAlarm_J6_bitCount_0f7a4 : GoodIn wsX1_answerWithoutAlarm wsJ6_bitCount_0f7a4 := goodIn_r _ [28, 29, 30, 31] (by decide +kernel) (by decide +kernel)
set_option maxRecDepth 20000 in
theorem gX1_answerWithoutAlarm_J6_bitCount_0f7a4 : GoodIn wsX1_answerWithoutAlarm (va_wsS RX1 72 yJ6_bitCount_0f7a4 wsJ6_bitCount_0f7a4) := goodIn_app (goodIn_of _ (by decide +kernel)) ggX1_answerWithoutAlarm_J6_bitCount_0f7a4
theorem dX1_answerWithoutAlarm_0 : decode cX1_answerWithoutAlarm 0 = .ok (.iconst 0, 1) := by decide +kernel
theorem dX1_answerWithoutAlarm_1 : decode cX1_answerWithoutAlarm 1 = .ok (.istore_n 2, 1) := by decide +kernel
theorem dX1_answerWithoutAlarm_2 : decode cX1_answerWithoutAlarm 2 = .ok (.iload_n 2, 1) := by decide +kernel
theorem dX1_answerWithoutAlarm_3 : decode cX1_answerWithoutAlarm 3 = .ok (.aload_n 0, 1) := by decide +kernel
theorem dX1_answerWithoutAlarm_4 : decode cX1_answerWithoutAlarm 4 = .ok (.getfield 15, 3) := by decide +kernel
theorem dX1_answerWithoutAlarm_7 : decode cX1_answerWithoutAlarm 7 = .ok (.invokevirtual 41, 3) := by decide +kernel
theorem dX1_answerWithoutAlarm_10 : decode cX1_answerWithoutAlarm 10 = .ok (.if_icmp .ge 43, 3) := by decide +kernel
theorem dX1_answerWithoutAlarm_13 : decode cX1_answerWithoutAlarm 13 = .ok (.iload_n 1, 1) := by decide +kernel
theorem dX1_answerWithoutAlarm_14 : decode cX1_answerWithoutAlarm 14 = .ok (.iload_n 2, 1) := by decide +kernel
theorem dX1_answerWithoutAlarm_15 : decode cX1_answerWithoutAlarm 15 = .ok (.invokestatic 82, 3) := by decide +kernel
theorem dX1_answerWithoutAlarm_18 : decode cX1_answerWithoutAlarm 18 = .ok (.ifCond .ne 29, 3) := by decide +kernel
theorem dX1_answerWithoutAlarm_21 : decode cX1_answerWithoutAlarm 21 = .ok (.aload_n 0, 1) := by decide +kernel
theorem dX1_answerWithoutAlarm_22 : decode cX1_answerWithoutAlarm 22 = .ok (.getfield 9, 3) := by decide +kernel
theorem dX1_answerWithoutAlarm_25 : decode cX1_answerWithoutAlarm 25 = .ok (.iload_n 2, 1) := by decide +kernel
theorem dX1_answerWithoutAlarm_26 : decode cX1_answerWithoutAlarm 26 = .ok (.iaload, 1) := by decide +kernel
theorem dX1_answerWithoutAlarm_27 : decode cX1_answerWithoutAlarm 27 = .ok (.ifCond .ne 20, 3) := by decide +kernel
theorem dX1_answerWithoutAlarm_30 : decode cX1_answerWithoutAlarm 30 = .ok (.aload_n 0, 1) := by decide +kernel
theorem dX1_answerWithoutAlarm_31 : decode cX1_answerWithoutAlarm 31 = .ok (.getfield 9, 3) := by decide +kernel
theorem dX1_answerWithoutAlarm_34 : decode cX1_answerWithoutAlarm 34 = .ok (.iload_n 2, 1) := by decide +kernel
theorem dX1_answerWithoutAlarm_35 : decode cX1_answerWithoutAlarm 35 = .ok (.aload_n 0, 1) := by decide +kernel
theorem dX1_answerWithoutAlarm_36 : decode cX1_answerWithoutAlarm 36 = .ok (.getfield 19, 3) := by decide +kernel
theorem dX1_answerWithoutAlarm_39 : decode cX1_answerWithoutAlarm 39 = .ok (.iload_n 2, 1) := by decide +kernel
theorem dX1_answerWithoutAlarm_40 : decode cX1_answerWithoutAlarm 40 = .ok (.invokevirtual 69, 3) := by decide +kernel
theorem dX1_answerWithoutAlarm_43 : decode cX1_answerWithoutAlarm 43 = .ok (.invokestatic 72, 3) := by decide +kernel
theorem dX1_answerWithoutAlarm_46 : decode cX1_answerWithoutAlarm 46 = .ok (.iastore, 1) := by decide +kernel
theorem dX1_answerWithoutAlarm_47 : decode cX1_answerWithoutAlarm 47 = .ok (.iinc 2 1, 3) := by decide +kernel
theorem dX1_answerWithoutAlarm_50 : decode cX1_answerWithoutAlarm 50 = .ok (.goto (-48), 3) := by decide +kernel
theorem dX1_answerWithoutAlarm_53 : decode cX1_answerWithoutAlarm 53 = .ok (.return_, 1) := by decide +kernel
set_option maxRecDepth 20000 in
theorem ggX1_allHaveAnswers_X7_nodes : GoodIn wsX1_allHaveAnswers wsX7_nodes := goodIn_r _ [7, 8, 13, 14, 15, 16] (by decide +kernel) (by decide +kernel)
set_option maxRecDepth 20000 in
theorem gX1_allHaveAnswers_X7_nodes : GoodIn wsX1_allHaveAnswers (wsV RX1 41 RX7 yX7_nodes wsX7_nodes) := goodIn_app (goodIn_of _ (by decide +kernel)) ggX1_allHaveAnswers_X7_nodes
theorem dX1_allHaveAnswers_0 : decode cX1_allHaveAnswers 0 = .ok (.iconst 0, 1) := by decide +kernel
theorem dX1_allHaveAnswers_1 : decode cX1_allHaveAnswers 1 = .ok (.istore_n 1, 1) := by decide +kernel
theorem dX1_allHaveAnswers_2 : decode cX1_allHaveAnswers 2 = .ok (.iload_n 1, 1) := by decide +kernel
theorem dX1_allHaveAnswers_3 : decode cX1_allHaveAnswers 3 = .ok (.aload_n 0, 1) := by decide +kernel
theorem dX1_allHaveAnswers_4 : decode cX1_allHaveAnswers 4 = .ok (.getfield 15, 3) := by decide +kernel
theorem dX1_allHaveAnswers_7 : decode cX1_allHaveAnswers 7 = .ok (.invokevirtual 41, 3) := by decide +kernel
theorem dX1_allHaveAnswers_10 : decode cX1_allHaveAnswers 10 = .ok (.if_icmp .ge 20, 3) := by decide +kernel
theorem dX1_allHaveAnswers_13 : decode cX1_allHaveAnswers 13 = .ok (.aload_n 0, 1) := by decide +kernel
theorem dX1_allHaveAnswers_14 : decode cX1_allHaveAnswers 14 = .ok (.getfield 9, 3) := by decide +kernel
theorem dX1_allHaveAnswers_17 : decode cX1_allHaveAnswers 17 = .ok (.iload_n 1, 1) := by decide +kernel
theorem dX1_allHaveAnswers_18 : decode cX1_allHaveAnswers 18 = .ok (.iaload, 1) := by decide +kernel
theorem dX1_allHaveAnswers_19 : decode cX1_allHaveAnswers 19 = .ok (.ifCond .ne 5, 3) := by decide +kernel
theorem dX1_allHaveAnswers_22 : decode cX1_allHaveAnswers 22 = .ok (.iconst 0, 1) := by decide +kernel
theorem dX1_allHaveAnswers_23 : decode cX1_allHaveAnswers 23 = .ok (.ireturn, 1) := by decide +kernel
theorem dX1_allHaveAnswers_24 : decode cX1_allHaveAnswers 24 = .ok (.iinc 1 1, 3) := by decide +kernel
theorem dX1_allHaveAnswers_27 : decode cX1_allHaveAnswers 27 = .ok (.goto (-25), 3) := by decide +kernel
theorem dX1_allHaveAnswers_30 : decode cX1_allHaveAnswers 30 = .ok (.iconst 1, 1) := by decide +kernel
theorem dX1_allHaveAnswers_31 : decode cX1_allHaveAnswers 31 = .ok (.ireturn, 1) := by decide +kernel
theorem dX2_between_0 : decode cX2_between 0 = .ok (.iload_n 0, 1) := by decide +kernel
theorem dX2_between_1 : decode cX2_between 1 = .ok (.iload_n 1, 1) := by decide +kernel
theorem dX2_between_2 : decode cX2_between 2 = .ok (.if_icmp .ge 17, 3) := by decide +kernel
theorem dX2_between_5 : decode cX2_between 5 = .ok (.iconst 1, 1) := by decide +kernel
theorem dX2_between_6 : decode cX2_between 6 = .ok (.iload_n 1, 1) := by decide +kernel
theorem dX2_between_7 : decode cX2_between 7 = .ok (.iload_n 1, 1) := by decide +kernel
theorem dX2_between_8 : decode cX2_between 8 = .ok (.iconst 1, 1) := by decide +kernel
theorem dX2_between_9 : decode cX2_between 9 = .ok (.isub, 1) := by decide +kernel
theorem dX2_between_10 : decode cX2_between 10 = .ok (.imul, 1) := by decide +kernel
theorem dX2_between_11 : decode cX2_between 11 = .ok (.iconst 2, 1) := by decide +kernel
theorem dX2_between_12 : decode cX2_between 12 = .ok (.idiv, 1) := by decide +kernel
theorem dX2_between_13 : decode cX2_between 13 = .ok (.iload_n 0, 1) := by decide +kernel
theorem dX2_between_14 : decode cX2_between 14 = .ok (.iadd, 1) := by decide +kernel
theorem dX2_between_15 : decode cX2_between 15 = .ok (.ishl, 1) := by decide +kernel
theorem dX2_between_16 : decode cX2_between 16 = .ok (.goto 14, 3) := by decide +kernel
theorem dX2_between_19 : decode cX2_between 19 = .ok (.iconst 1, 1) := by decide +kernel
theorem dX2_between_20 : decode cX2_between 20 = .ok (.iload_n 0, 1) := by decide +kernel
theorem dX2_between_21 : decode cX2_between 21 = .ok (.iload_n 0, 1) := by decide +kernel
theorem dX2_between_22 : decode cX2_between 22 = .ok (.iconst 1, 1) := by decide +kernel
theorem dX2_between_23 : decode cX2_between 23 = .ok (.isub, 1) := by decide +kernel
theorem dX2_between_24 : decode cX2_between 24 = .ok (.imul, 1) := by decide +kernel
theorem dX2_between_25 : decode cX2_between 25 = .ok (.iconst 2, 1) := by decide +kernel
theorem dX2_between_26 : decode cX2_between 26 = .ok (.idiv, 1) := by decide +kernel
theorem dX2_between_27 : decode cX2_between 27 = .ok (.iload_n 1, 1) := by decide +kernel
theorem dX2_between_28 : decode cX2_between 28 = .ok (.iadd, 1) := by decide +kernel
theorem dX2_between_29 : decode cX2_between 29 = .ok (.ishl, 1) := by decide +kernel
theorem dX2_between_30 : decode cX2_between 30 = .ok (.ireturn, 1) := by decide +kernel
set_option maxRecDepth 20000 in
theorem ggX2_connects_X2_between : GoodIn wsX2_connects wsX2_between := goodIn_r _ [4] (by decide +kernel) (by decide +kernel)
set_option maxRecDepth 20000 in
theorem gX2_connects_X2_between : GoodIn wsX2_connects (va_wsS RX2 9 yX2_between wsX2_between) := goodIn_app (goodIn_of _ (by decide +kernel)) ggX2_connects_X2_between
theorem dX2_connects_0 : decode cX2_connects 0 = .ok (.iload_n 0, 1) := by decide +kernel
theorem dX2_connects_1 : decode cX2_connects 1 = .ok (.iload_n 1, 1) := by decide +kernel
theorem dX2_connects_2 : decode cX2_connects 2 = .ok (.iload_n 2, 1) := by decide +kernel
theorem dX2_connects_3 : decode cX2_connects 3 = .ok (.invokestatic 9, 3) := by decide +kernel
theorem dX2_connects_6 : decode cX2_connects 6 = .ok (.iand, 1) := by decide +kernel
theorem dX2_connects_7 : decode cX2_connects 7 = .ok (.ifCond .eq 7, 3) := by decide +kernel
theorem dX2_connects_10 : decode cX2_connects 10 = .ok (.iconst 1, 1) := by decide +kernel
theorem dX2_connects_11 : decode cX2_connects 11 = .ok (.goto 4, 3) := by decide +kernel
theorem dX2_connects_14 : decode cX2_connects 14 = .ok (.iconst 0, 1) := by decide +kernel
theorem dX2_connects_15 : decode cX2_connects 15 = .ok (.ireturn, 1) := by decide +kernel
set_option maxRecDepth 20000 in
theorem ggX2_neighbours_X2_connects : GoodIn wsX2_neighbours wsX2_connects := goodIn_r _ [4, 5, 6, 3, 7] (by decide +kernel) (by decide +kernel)
set_option maxRecDepth 20000 in
theorem gX2_neighbours_X2_connects : GoodIn wsX2_neighbours (va_wsS RX2 15 yX2_connects wsX2_connects) := goodIn_app (goodIn_of _ (by decide +kernel)) ggX2_neighbours_X2_connects
set_option maxRecDepth 20000 in
theorem ggX2_neighbours_X6_of : GoodIn wsX2_neighbours wsX6_of := goodIn_r _ [11] (by decide +kernel) (by decide +kernel)
set_option maxRecDepth 20000 in
theorem gX2_neighbours_X6_of : GoodIn wsX2_neighbours (va_wsS RX2 19 yX6_of wsX6_of) := goodIn_app (goodIn_of _ (by decide +kernel)) ggX2_neighbours_X6_of
theorem dX2_neighbours_0 : decode cX2_neighbours 0 = .ok (.iconst 0, 1) := by decide +kernel
theorem dX2_neighbours_1 : decode cX2_neighbours 1 = .ok (.istore_n 3, 1) := by decide +kernel
theorem dX2_neighbours_2 : decode cX2_neighbours 2 = .ok (.iconst 0, 1) := by decide +kernel
theorem dX2_neighbours_3 : decode cX2_neighbours 3 = .ok (.istore 4, 2) := by decide +kernel
theorem dX2_neighbours_5 : decode cX2_neighbours 5 = .ok (.iload 4, 2) := by decide +kernel
theorem dX2_neighbours_7 : decode cX2_neighbours 7 = .ok (.iload_n 2, 1) := by decide +kernel
theorem dX2_neighbours_8 : decode cX2_neighbours 8 = .ok (.if_icmp .ge 33, 3) := by decide +kernel
theorem dX2_neighbours_11 : decode cX2_neighbours 11 = .ok (.iload 4, 2) := by decide +kernel
theorem dX2_neighbours_13 : decode cX2_neighbours 13 = .ok (.iload_n 1, 1) := by decide +kernel
theorem dX2_neighbours_14 : decode cX2_neighbours 14 = .ok (.if_icmp .eq 21, 3) := by decide +kernel
theorem dX2_neighbours_17 : decode cX2_neighbours 17 = .ok (.iload_n 0, 1) := by decide +kernel
theorem dX2_neighbours_18 : decode cX2_neighbours 18 = .ok (.iload_n 1, 1) := by decide +kernel
theorem dX2_neighbours_19 : decode cX2_neighbours 19 = .ok (.iload 4, 2) := by decide +kernel
theorem dX2_neighbours_21 : decode cX2_neighbours 21 = .ok (.invokestatic 15, 3) := by decide +kernel
theorem dX2_neighbours_24 : decode cX2_neighbours 24 = .ok (.ifCond .eq 11, 3) := by decide +kernel
theorem dX2_neighbours_27 : decode cX2_neighbours 27 = .ok (.iload_n 3, 1) := by decide +kernel
theorem dX2_neighbours_28 : decode cX2_neighbours 28 = .ok (.iload 4, 2) := by decide +kernel
theorem dX2_neighbours_30 : decode cX2_neighbours 30 = .ok (.invokestatic 19, 3) := by decide +kernel
theorem dX2_neighbours_33 : decode cX2_neighbours 33 = .ok (.ior, 1) := by decide +kernel
theorem dX2_neighbours_34 : decode cX2_neighbours 34 = .ok (.istore_n 3, 1) := by decide +kernel
theorem dX2_neighbours_35 : decode cX2_neighbours 35 = .ok (.iinc 4 1, 3) := by decide +kernel
theorem dX2_neighbours_38 : decode cX2_neighbours 38 = .ok (.goto (-33), 3) := by decide +kernel
theorem dX2_neighbours_41 : decode cX2_neighbours 41 = .ok (.iload_n 3, 1) := by decide +kernel
theorem dX2_neighbours_42 : decode cX2_neighbours 42 = .ok (.ireturn, 1) := by decide +kernel
set_option maxRecDepth 20000 in
theorem ggX2_spread_X2_connects : GoodIn wsX2_spread wsX2_connects := goodIn_r _ [4, 5, 6, 3, 7] (by decide +kernel) (by decide +kernel)
set_option maxRecDepth 20000 in
theorem gX2_spread_X2_connects : GoodIn wsX2_spread (va_wsS RX2 15 yX2_connects wsX2_connects) := goodIn_app (goodIn_of _ (by decide +kernel)) ggX2_spread_X2_connects
set_option maxRecDepth 20000 in
theorem ggX2_spread_X6_has : GoodIn wsX2_spread wsX6_has := goodIn_r _ [11] (by decide +kernel) (by decide +kernel)
set_option maxRecDepth 20000 in
theorem gX2_spread_X6_has : GoodIn wsX2_spread (va_wsS RX2 25 yX6_has wsX6_has) := goodIn_app (goodIn_of _ (by decide +kernel)) ggX2_spread_X6_has
set_option maxRecDepth 20000 in
theorem ggX2_spread_X6_of : GoodIn wsX2_spread wsX6_of := goodIn_r _ [14] (by decide +kernel) (by decide +kernel)
set_option maxRecDepth 20000 in
theorem gX2_spread_X6_of : GoodIn wsX2_spread (va_wsS RX2 19 yX6_of wsX6_of) := goodIn_app (goodIn_of _ (by decide +kernel)) ggX2_spread_X6_of
theorem dX2_spread_0 : decode cX2_spread 0 = .ok (.iload_n 1, 1) := by decide +kernel
theorem dX2_spread_1 : decode cX2_spread 1 = .ok (.istore_n 3, 1) := by decide +kernel
theorem dX2_spread_2 : decode cX2_spread 2 = .ok (.iconst 1, 1) := by decide +kernel
theorem dX2_spread_3 : decode cX2_spread 3 = .ok (.istore 4, 2) := by decide +kernel
theorem dX2_spread_5 : decode cX2_spread 5 = .ok (.iload 4, 2) := by decide +kernel
theorem dX2_spread_7 : decode cX2_spread 7 = .ok (.iload_n 2, 1) := by decide +kernel
theorem dX2_spread_8 : decode cX2_spread 8 = .ok (.if_icmp .ge 78, 3) := by decide +kernel
theorem dX2_spread_11 : decode cX2_spread 11 = .ok (.iconst 0, 1) := by decide +kernel
theorem dX2_spread_12 : decode cX2_spread 12 = .ok (.istore 5, 2) := by decide +kernel
theorem dX2_spread_14 : decode cX2_spread 14 = .ok (.iload 5, 2) := by decide +kernel
theorem dX2_spread_16 : decode cX2_spread 16 = .ok (.iload 4, 2) := by decide +kernel
theorem dX2_spread_18 : decode cX2_spread 18 = .ok (.if_icmp .ge 62, 3) := by decide +kernel
theorem dX2_spread_21 : decode cX2_spread 21 = .ok (.iload_n 0, 1) := by decide +kernel
theorem dX2_spread_22 : decode cX2_spread 22 = .ok (.iload 5, 2) := by decide +kernel
theorem dX2_spread_24 : decode cX2_spread 24 = .ok (.iload 4, 2) := by decide +kernel
theorem dX2_spread_26 : decode cX2_spread 26 = .ok (.invokestatic 15, 3) := by decide +kernel
theorem dX2_spread_29 : decode cX2_spread 29 = .ok (.ifCond .eq 45, 3) := by decide +kernel
theorem dX2_spread_32 : decode cX2_spread 32 = .ok (.iload_n 3, 1) := by decide +kernel
theorem dX2_spread_33 : decode cX2_spread 33 = .ok (.iload_n 1, 1) := by decide +kernel
theorem dX2_spread_34 : decode cX2_spread 34 = .ok (.iload 5, 2) := by decide +kernel
theorem dX2_spread_36 : decode cX2_spread 36 = .ok (.invokestatic 25, 3) := by decide +kernel
theorem dX2_spread_39 : decode cX2_spread 39 = .ok (.ifCond .eq 11, 3) := by decide +kernel
theorem dX2_spread_42 : decode cX2_spread 42 = .ok (.iload 4, 2) := by decide +kernel
theorem dX2_spread_44 : decode cX2_spread 44 = .ok (.invokestatic 19, 3) := by decide +kernel
theorem dX2_spread_47 : decode cX2_spread 47 = .ok (.goto 4, 3) := by decide +kernel
theorem dX2_spread_50 : decode cX2_spread 50 = .ok (.iconst 0, 1) := by decide +kernel
theorem dX2_spread_51 : decode cX2_spread 51 = .ok (.ior, 1) := by decide +kernel
theorem dX2_spread_52 : decode cX2_spread 52 = .ok (.istore_n 3, 1) := by decide +kernel
theorem dX2_spread_53 : decode cX2_spread 53 = .ok (.iload_n 3, 1) := by decide +kernel
theorem dX2_spread_54 : decode cX2_spread 54 = .ok (.iload_n 1, 1) := by decide +kernel
theorem dX2_spread_55 : decode cX2_spread 55 = .ok (.iload 4, 2) := by decide +kernel
theorem dX2_spread_57 : decode cX2_spread 57 = .ok (.invokestatic 25, 3) := by decide +kernel
theorem dX2_spread_60 : decode cX2_spread 60 = .ok (.ifCond .eq 11, 3) := by decide +kernel
theorem dX2_spread_63 : decode cX2_spread 63 = .ok (.iload 5, 2) := by decide +kernel
theorem dX2_spread_65 : decode cX2_spread 65 = .ok (.invokestatic 19, 3) := by decide +kernel
theorem dX2_spread_68 : decode cX2_spread 68 = .ok (.goto 4, 3) := by decide +kernel
theorem dX2_spread_71 : decode cX2_spread 71 = .ok (.iconst 0, 1) := by decide +kernel
theorem dX2_spread_72 : decode cX2_spread 72 = .ok (.ior, 1) := by decide +kernel
theorem dX2_spread_73 : decode cX2_spread 73 = .ok (.istore_n 3, 1) := by decide +kernel
theorem dX2_spread_74 : decode cX2_spread 74 = .ok (.iinc 5 1, 3) := by decide +kernel
theorem dX2_spread_77 : decode cX2_spread 77 = .ok (.goto (-63), 3) := by decide +kernel
theorem dX2_spread_80 : decode cX2_spread 80 = .ok (.iinc 4 1, 3) := by decide +kernel
theorem dX2_spread_83 : decode cX2_spread 83 = .ok (.goto (-78), 3) := by decide +kernel
theorem dX2_spread_86 : decode cX2_spread 86 = .ok (.iload_n 3, 1) := by decide +kernel
theorem dX2_spread_87 : decode cX2_spread 87 = .ok (.ireturn, 1) := by decide +kernel
set_option maxRecDepth 20000 in
theorem ggX2_component_X6_of : GoodIn wsX2_component wsX6_of := goodIn_r _ [4] (by decide +kernel) (by decide +kernel)
set_option maxRecDepth 20000 in
theorem gX2_component_X6_of : GoodIn wsX2_component (va_wsS RX2 19 yX6_of wsX6_of) := goodIn_app (goodIn_of _ (by decide +kernel)) ggX2_component_X6_of
set_option maxRecDepth 20000 in
theorem ggX2_component_X2_spread : GoodIn wsX2_component wsX2_spread := goodIn_r _ [8, 9, 10, 7, 11, 12, 13, 14, 15, 16, 3, 17, 1, 2, 4] (by decide +kernel) (by decide +kernel)
set_option maxRecDepth 20000 in
theorem gX2_component_X2_spread : GoodIn wsX2_component (va_wsS RX2 29 yX2_spread wsX2_spread) := goodIn_app (goodIn_of _ (by decide +kernel)) ggX2_component_X2_spread
theorem dX2_component_0 : decode cX2_component 0 = .ok (.iconst 0, 1) := by decide +kernel
theorem dX2_component_1 : decode cX2_component 1 = .ok (.istore_n 3, 1) := by decide +kernel
theorem dX2_component_2 : decode cX2_component 2 = .ok (.iload_n 1, 1) := by decide +kernel
theorem dX2_component_3 : decode cX2_component 3 = .ok (.invokestatic 19, 3) := by decide +kernel
theorem dX2_component_6 : decode cX2_component 6 = .ok (.istore 4, 2) := by decide +kernel
theorem dX2_component_8 : decode cX2_component 8 = .ok (.iconst 1, 1) := by decide +kernel
theorem dX2_component_9 : decode cX2_component 9 = .ok (.istore 5, 2) := by decide +kernel
theorem dX2_component_11 : decode cX2_component 11 = .ok (.iload 5, 2) := by decide +kernel
theorem dX2_component_13 : decode cX2_component 13 = .ok (.iload_n 2, 1) := by decide +kernel
theorem dX2_component_14 : decode cX2_component 14 = .ok (.if_icmp .ge 27, 3) := by decide +kernel
theorem dX2_component_17 : decode cX2_component 17 = .ok (.iload 4, 2) := by decide +kernel
theorem dX2_component_19 : decode cX2_component 19 = .ok (.iload_n 3, 1) := by decide +kernel
theorem dX2_component_20 : decode cX2_component 20 = .ok (.if_icmp .eq 21, 3) := by decide +kernel
theorem dX2_component_23 : decode cX2_component 23 = .ok (.iload 4, 2) := by decide +kernel
theorem dX2_component_25 : decode cX2_component 25 = .ok (.istore_n 3, 1) := by decide +kernel
theorem dX2_component_26 : decode cX2_component 26 = .ok (.iload_n 0, 1) := by decide +kernel
theorem dX2_component_27 : decode cX2_component 27 = .ok (.iload 4, 2) := by decide +kernel
theorem dX2_component_29 : decode cX2_component 29 = .ok (.iload_n 2, 1) := by decide +kernel
theorem dX2_component_30 : decode cX2_component 30 = .ok (.invokestatic 29, 3) := by decide +kernel
theorem dX2_component_33 : decode cX2_component 33 = .ok (.istore 4, 2) := by decide +kernel
theorem dX2_component_35 : decode cX2_component 35 = .ok (.iinc 5 1, 3) := by decide +kernel
theorem dX2_component_38 : decode cX2_component 38 = .ok (.goto (-27), 3) := by decide +kernel
theorem dX2_component_41 : decode cX2_component 41 = .ok (.iload 4, 2) := by decide +kernel
theorem dX2_component_43 : decode cX2_component 43 = .ok (.ireturn, 1) := by decide +kernel
set_option maxRecDepth 20000 in
theorem ggX2_components_X6_has : GoodIn wsX2_components wsX6_has := goodIn_r _ [4] (by decide +kernel) (by decide +kernel)
set_option maxRecDepth 20000 in
theorem gX2_components_X6_has : GoodIn wsX2_components (va_wsS RX2 25 yX6_has wsX6_has) := goodIn_app (goodIn_of _ (by decide +kernel)) ggX2_components_X6_has
set_option maxRecDepth 20000 in
theorem ggX2_components_X2_component : GoodIn wsX2_components wsX2_component := goodIn_r _ [8, 9, 10, 3, 11, 12, 13, 7, 14, 15, 16, 17, 18, 19, 20, 1, 2, 4] (by decide +kernel) (by decide +kernel)
set_option maxRecDepth 20000 in
theorem gX2_components_X2_component : GoodIn wsX2_components (va_wsS RX2 33 yX2_component wsX2_component) := goodIn_app (goodIn_of _ (by decide +kernel)) ggX2_components_X2_component
theorem dX2_components_0 : decode cX2_components 0 = .ok (.iconst 0, 1) := by decide +kernel
theorem dX2_components_1 : decode cX2_components 1 = .ok (.istore_n 2, 1) := by decide +kernel
theorem dX2_components_2 : decode cX2_components 2 = .ok (.iconst 0, 1) := by decide +kernel
theorem dX2_components_3 : decode cX2_components 3 = .ok (.istore_n 3, 1) := by decide +kernel
theorem dX2_components_4 : decode cX2_components 4 = .ok (.iconst 0, 1) := by decide +kernel
theorem dX2_components_5 : decode cX2_components 5 = .ok (.istore 4, 2) := by decide +kernel
theorem dX2_components_7 : decode cX2_components 7 = .ok (.iload 4, 2) := by decide +kernel
theorem dX2_components_9 : decode cX2_components 9 = .ok (.iload_n 1, 1) := by decide +kernel
theorem dX2_components_10 : decode cX2_components 10 = .ok (.if_icmp .ge 31, 3) := by decide +kernel
theorem dX2_components_13 : decode cX2_components 13 = .ok (.iload_n 3, 1) := by decide +kernel
theorem dX2_components_14 : decode cX2_components 14 = .ok (.iload 4, 2) := by decide +kernel
theorem dX2_components_16 : decode cX2_components 16 = .ok (.invokestatic 25, 3) := by decide +kernel
theorem dX2_components_19 : decode cX2_components 19 = .ok (.ifCond .ne 16, 3) := by decide +kernel
theorem dX2_components_22 : decode cX2_components 22 = .ok (.iload_n 3, 1) := by decide +kernel
theorem dX2_components_23 : decode cX2_components 23 = .ok (.iload_n 0, 1) := by decide +kernel
theorem dX2_components_24 : decode cX2_components 24 = .ok (.iload 4, 2) := by decide +kernel
theorem dX2_components_26 : decode cX2_components 26 = .ok (.iload_n 1, 1) := by decide +kernel
theorem dX2_components_27 : decode cX2_components 27 = .ok (.invokestatic 33, 3) := by decide +kernel
theorem dX2_components_30 : decode cX2_components 30 = .ok (.ior, 1) := by decide +kernel
theorem dX2_components_31 : decode cX2_components 31 = .ok (.istore_n 3, 1) := by decide +kernel
theorem dX2_components_32 : decode cX2_components 32 = .ok (.iinc 2 1, 3) := by decide +kernel
theorem dX2_components_35 : decode cX2_components 35 = .ok (.iinc 4 1, 3) := by decide +kernel
theorem dX2_components_38 : decode cX2_components 38 = .ok (.goto (-31), 3) := by decide +kernel
theorem dX2_components_41 : decode cX2_components 41 = .ok (.iload_n 2, 1) := by decide +kernel
theorem dX2_components_42 : decode cX2_components 42 = .ok (.ireturn, 1) := by decide +kernel
set_option maxRecDepth 20000 in
theorem ggX2_areConnected_X2_component : GoodIn wsX2_areConnected wsX2_component := goodIn_r _ [4, 5, 6, 7, 8, 9, 10, 3, 11, 12, 13, 14, 15, 16, 17, 18, 19, 20] (by decide +kernel) (by decide +kernel)
set_option maxRecDepth 20000 in
theorem gX2_areConnected_X2_component : GoodIn wsX2_areConnected (va_wsS RX2 33 yX2_component wsX2_component) := goodIn_app (goodIn_of _ (by decide +kernel)) ggX2_areConnected_X2_component
set_option maxRecDepth 20000 in
theorem ggX2_areConnected_X6_firstOnes : GoodIn wsX2_areConnected wsX6_firstOnes := goodIn_r _ [23] (by decide +kernel) (by decide +kernel)
set_option maxRecDepth 20000 in
theorem gX2_areConnected_X6_firstOnes : GoodIn wsX2_areConnected (va_wsS RX2 36 yX6_firstOnes wsX6_firstOnes) := goodIn_app (goodIn_of _ (by decide +kernel)) ggX2_areConnected_X6_firstOnes
theorem dX2_areConnected_0 : decode cX2_areConnected 0 = .ok (.iload_n 0, 1) := by decide +kernel
theorem dX2_areConnected_1 : decode cX2_areConnected 1 = .ok (.iconst 0, 1) := by decide +kernel
theorem dX2_areConnected_2 : decode cX2_areConnected 2 = .ok (.iload_n 1, 1) := by decide +kernel
theorem dX2_areConnected_3 : decode cX2_areConnected 3 = .ok (.invokestatic 33, 3) := by decide +kernel
theorem dX2_areConnected_6 : decode cX2_areConnected 6 = .ok (.iload_n 1, 1) := by decide +kernel
theorem dX2_areConnected_7 : decode cX2_areConnected 7 = .ok (.invokestatic 36, 3) := by decide +kernel
theorem dX2_areConnected_10 : decode cX2_areConnected 10 = .ok (.if_icmp .ne 7, 3) := by decide +kernel
theorem dX2_areConnected_13 : decode cX2_areConnected 13 = .ok (.iconst 1, 1) := by decide +kernel
theorem dX2_areConnected_14 : decode cX2_areConnected 14 = .ok (.goto 4, 3) := by decide +kernel
theorem dX2_areConnected_17 : decode cX2_areConnected 17 = .ok (.iconst 0, 1) := by decide +kernel
theorem dX2_areConnected_18 : decode cX2_areConnected 18 = .ok (.ireturn, 1) := by decide +kernel
set_option maxRecDepth 20000 in
theorem ggX2_greatestDegree_X2_neighbours : GoodIn wsX2_greatestDegree wsX2_neighbours := goodIn_r _ [8, 9, 10, 7, 11, 12, 13, 14, 15, 16, 17, 18] (by decide +kernel) (by decide +kernel)
set_option maxRecDepth 20000 in
theorem gX2_greatestDegree_X2_neighbours : GoodIn wsX2_greatestDegree (va_wsS RX2 39 yX2_neighbours wsX2_neighbours) := goodIn_app (goodIn_of _ (by decide +kernel)) ggX2_greatestDegree_X2_neighbours
set_option maxRecDepth 20000 in
theorem ggX2_greatestDegree_J6_bitCount_0f7a4 : GoodIn wsX2_greatestDegree wsJ6_bitCount_0f7a4 := goodIn_r _ [22, 23, 24, 25] (by decide +kernel) (by decide +kernel)
set_option maxRecDepth 20000 in
theorem gX2_greatestDegree_J6_bitCount_0f7a4 : GoodIn wsX2_greatestDegree (va_wsS RX2 42 yJ6_bitCount_0f7a4 wsJ6_bitCount_0f7a4) := goodIn_app (goodIn_of _ (by decide +kernel)) ggX2_greatestDegree_J6_bitCount_0f7a4
theorem dX2_greatestDegree_0 : decode cX2_greatestDegree 0 = .ok (.iconst 0, 1) := by decide +kernel
theorem dX2_greatestDegree_1 : decode cX2_greatestDegree 1 = .ok (.istore_n 2, 1) := by decide +kernel
theorem dX2_greatestDegree_2 : decode cX2_greatestDegree 2 = .ok (.iconst 0, 1) := by decide +kernel
theorem dX2_greatestDegree_3 : decode cX2_greatestDegree 3 = .ok (.istore_n 3, 1) := by decide +kernel
theorem dX2_greatestDegree_4 : decode cX2_greatestDegree 4 = .ok (.iload_n 3, 1) := by decide +kernel
theorem dX2_greatestDegree_5 : decode cX2_greatestDegree 5 = .ok (.iload_n 1, 1) := by decide +kernel
theorem dX2_greatestDegree_6 : decode cX2_greatestDegree 6 = .ok (.if_icmp .ge 27, 3) := by decide +kernel
theorem dX2_greatestDegree_9 : decode cX2_greatestDegree 9 = .ok (.iload_n 0, 1) := by decide +kernel
theorem dX2_greatestDegree_10 : decode cX2_greatestDegree 10 = .ok (.iload_n 3, 1) := by decide +kernel
theorem dX2_greatestDegree_11 : decode cX2_greatestDegree 11 = .ok (.iload_n 1, 1) := by decide +kernel
theorem dX2_greatestDegree_12 : decode cX2_greatestDegree 12 = .ok (.invokestatic 39, 3) := by decide +kernel
theorem dX2_greatestDegree_15 : decode cX2_greatestDegree 15 = .ok (.invokestatic 42, 3) := by decide +kernel
theorem dX2_greatestDegree_18 : decode cX2_greatestDegree 18 = .ok (.istore 4, 2) := by decide +kernel
theorem dX2_greatestDegree_20 : decode cX2_greatestDegree 20 = .ok (.iload_n 2, 1) := by decide +kernel
theorem dX2_greatestDegree_21 : decode cX2_greatestDegree 21 = .ok (.iload 4, 2) := by decide +kernel
theorem dX2_greatestDegree_23 : decode cX2_greatestDegree 23 = .ok (.invokestatic 47, 3) := by decide +kernel
theorem dX2_greatestDegree_26 : decode cX2_greatestDegree 26 = .ok (.istore_n 2, 1) := by decide +kernel
theorem dX2_greatestDegree_27 : decode cX2_greatestDegree 27 = .ok (.iinc 3 1, 3) := by decide +kernel
theorem dX2_greatestDegree_30 : decode cX2_greatestDegree 30 = .ok (.goto (-26), 3) := by decide +kernel
theorem dX2_greatestDegree_33 : decode cX2_greatestDegree 33 = .ok (.iload_n 2, 1) := by decide +kernel
theorem dX2_greatestDegree_34 : decode cX2_greatestDegree 34 = .ok (.ireturn, 1) := by decide +kernel
set_option maxRecDepth 20000 in
theorem ggX2_path_X2_between : GoodIn wsX2_path wsX2_between := goodIn_r _ [4] (by decide +kernel) (by decide +kernel)
set_option maxRecDepth 20000 in
theorem gX2_path_X2_between : GoodIn wsX2_path (va_wsS RX2 9 yX2_between wsX2_between) := goodIn_app (goodIn_of _ (by decide +kernel)) ggX2_path_X2_between
theorem dX2_path_0 : decode cX2_path 0 = .ok (.iconst 0, 1) := by decide +kernel
theorem dX2_path_1 : decode cX2_path 1 = .ok (.istore_n 1, 1) := by decide +kernel
theorem dX2_path_2 : decode cX2_path 2 = .ok (.iconst 1, 1) := by decide +kernel
theorem dX2_path_3 : decode cX2_path 3 = .ok (.istore_n 2, 1) := by decide +kernel
theorem dX2_path_4 : decode cX2_path 4 = .ok (.iload_n 2, 1) := by decide +kernel
theorem dX2_path_5 : decode cX2_path 5 = .ok (.iload_n 0, 1) := by decide +kernel
theorem dX2_path_6 : decode cX2_path 6 = .ok (.if_icmp .ge 19, 3) := by decide +kernel
theorem dX2_path_9 : decode cX2_path 9 = .ok (.iload_n 1, 1) := by decide +kernel
theorem dX2_path_10 : decode cX2_path 10 = .ok (.iload_n 2, 1) := by decide +kernel
theorem dX2_path_11 : decode cX2_path 11 = .ok (.iconst 1, 1) := by decide +kernel
theorem dX2_path_12 : decode cX2_path 12 = .ok (.isub, 1) := by decide +kernel
theorem dX2_path_13 : decode cX2_path 13 = .ok (.iload_n 2, 1) := by decide +kernel
theorem dX2_path_14 : decode cX2_path 14 = .ok (.invokestatic 9, 3) := by decide +kernel
theorem dX2_path_17 : decode cX2_path 17 = .ok (.ior, 1) := by decide +kernel
theorem dX2_path_18 : decode cX2_path 18 = .ok (.istore_n 1, 1) := by decide +kernel
theorem dX2_path_19 : decode cX2_path 19 = .ok (.iinc 2 1, 3) := by decide +kernel
theorem dX2_path_22 : decode cX2_path 22 = .ok (.goto (-18), 3) := by decide +kernel
theorem dX2_path_25 : decode cX2_path 25 = .ok (.iload_n 1, 1) := by decide +kernel
theorem dX2_path_26 : decode cX2_path 26 = .ok (.ireturn, 1) := by decide +kernel
set_option maxRecDepth 20000 in
theorem ggX2_ring_X2_path : GoodIn wsX2_ring wsX2_path := goodIn_r _ [4, 5, 6, 3, 7] (by decide +kernel) (by decide +kernel)
set_option maxRecDepth 20000 in
theorem gX2_ring_X2_path : GoodIn wsX2_ring (va_wsS RX2 52 yX2_path wsX2_path) := goodIn_app (goodIn_of _ (by decide +kernel)) ggX2_ring_X2_path
set_option maxRecDepth 20000 in
theorem ggX2_ring_X2_between : GoodIn wsX2_ring wsX2_between := goodIn_r _ [7] (by decide +kernel) (by decide +kernel)
set_option maxRecDepth 20000 in
theorem gX2_ring_X2_between : GoodIn wsX2_ring (va_wsS RX2 9 yX2_between wsX2_between) := goodIn_app (goodIn_of _ (by decide +kernel)) ggX2_ring_X2_between
theorem dX2_ring_0 : decode cX2_ring 0 = .ok (.iload_n 0, 1) := by decide +kernel
theorem dX2_ring_1 : decode cX2_ring 1 = .ok (.invokestatic 52, 3) := by decide +kernel
theorem dX2_ring_4 : decode cX2_ring 4 = .ok (.iconst 0, 1) := by decide +kernel
theorem dX2_ring_5 : decode cX2_ring 5 = .ok (.iload_n 0, 1) := by decide +kernel
theorem dX2_ring_6 : decode cX2_ring 6 = .ok (.iconst 1, 1) := by decide +kernel
theorem dX2_ring_7 : decode cX2_ring 7 = .ok (.isub, 1) := by decide +kernel
theorem dX2_ring_8 : decode cX2_ring 8 = .ok (.invokestatic 9, 3) := by decide +kernel
theorem dX2_ring_11 : decode cX2_ring 11 = .ok (.ior, 1) := by decide +kernel
theorem dX2_ring_12 : decode cX2_ring 12 = .ok (.ireturn, 1) := by decide +kernel
set_option maxRecDepth 20000 in
theorem ggX2_star_X2_between : GoodIn wsX2_star wsX2_between := goodIn_r _ [4] (by decide +kernel) (by decide +kernel)
set_option maxRecDepth 20000 in
theorem gX2_star_X2_between : GoodIn wsX2_star (va_wsS RX2 9 yX2_between wsX2_between) := goodIn_app (goodIn_of _ (by decide +kernel)) ggX2_star_X2_between
theorem dX2_star_0 : decode cX2_star 0 = .ok (.iconst 0, 1) := by decide +kernel
theorem dX2_star_1 : decode cX2_star 1 = .ok (.istore_n 2, 1) := by decide +kernel
theorem dX2_star_2 : decode cX2_star 2 = .ok (.iconst 0, 1) := by decide +kernel
theorem dX2_star_3 : decode cX2_star 3 = .ok (.istore_n 3, 1) := by decide +kernel
theorem dX2_star_4 : decode cX2_star 4 = .ok (.iload_n 3, 1) := by decide +kernel
theorem dX2_star_5 : decode cX2_star 5 = .ok (.iload_n 1, 1) := by decide +kernel
theorem dX2_star_6 : decode cX2_star 6 = .ok (.if_icmp .ge 22, 3) := by decide +kernel
theorem dX2_star_9 : decode cX2_star 9 = .ok (.iload_n 3, 1) := by decide +kernel
theorem dX2_star_10 : decode cX2_star 10 = .ok (.iload_n 0, 1) := by decide +kernel
theorem dX2_star_11 : decode cX2_star 11 = .ok (.if_icmp .eq 11, 3) := by decide +kernel
theorem dX2_star_14 : decode cX2_star 14 = .ok (.iload_n 2, 1) := by decide +kernel
theorem dX2_star_15 : decode cX2_star 15 = .ok (.iload_n 0, 1) := by decide +kernel
theorem dX2_star_16 : decode cX2_star 16 = .ok (.iload_n 3, 1) := by decide +kernel
theorem dX2_star_17 : decode cX2_star 17 = .ok (.invokestatic 9, 3) := by decide +kernel
theorem dX2_star_20 : decode cX2_star 20 = .ok (.ior, 1) := by decide +kernel
theorem dX2_star_21 : decode cX2_star 21 = .ok (.istore_n 2, 1) := by decide +kernel
theorem dX2_star_22 : decode cX2_star 22 = .ok (.iinc 3 1, 3) := by decide +kernel
theorem dX2_star_25 : decode cX2_star 25 = .ok (.goto (-21), 3) := by decide +kernel
theorem dX2_star_28 : decode cX2_star 28 = .ok (.iload_n 2, 1) := by decide +kernel
theorem dX2_star_29 : decode cX2_star 29 = .ok (.ireturn, 1) := by decide +kernel
set_option maxRecDepth 20000 in
theorem ggX2_clique_X6_has : GoodIn wsX2_clique wsX6_has := goodIn_r _ [4] (by decide +kernel) (by decide +kernel)
set_option maxRecDepth 20000 in
theorem gX2_clique_X6_has : GoodIn wsX2_clique (va_wsS RX2 25 yX6_has wsX6_has) := goodIn_app (goodIn_of _ (by decide +kernel)) ggX2_clique_X6_has
set_option maxRecDepth 20000 in
theorem ggX2_clique_X2_between : GoodIn wsX2_clique wsX2_between := goodIn_r _ [8] (by decide +kernel) (by decide +kernel)
set_option maxRecDepth 20000 in
theorem gX2_clique_X2_between : GoodIn wsX2_clique (va_wsS RX2 9 yX2_between wsX2_between) := goodIn_app (goodIn_of _ (by decide +kernel)) ggX2_clique_X2_between
theorem dX2_clique_0 : decode cX2_clique 0 = .ok (.iconst 0, 1) := by decide +kernel
theorem dX2_clique_1 : decode cX2_clique 1 = .ok (.istore_n 1, 1) := by decide +kernel
theorem dX2_clique_2 : decode cX2_clique 2 = .ok (.iconst 1, 1) := by decide +kernel
theorem dX2_clique_3 : decode cX2_clique 3 = .ok (.istore_n 2, 1) := by decide +kernel
theorem dX2_clique_4 : decode cX2_clique 4 = .ok (.iload_n 2, 1) := by decide +kernel
theorem dX2_clique_5 : decode cX2_clique 5 = .ok (.bipush 8, 2) := by decide +kernel
theorem dX2_clique_7 : decode cX2_clique 7 = .ok (.if_icmp .ge 46, 3) := by decide +kernel
theorem dX2_clique_10 : decode cX2_clique 10 = .ok (.iconst 0, 1) := by decide +kernel
theorem dX2_clique_11 : decode cX2_clique 11 = .ok (.istore_n 3, 1) := by decide +kernel
theorem dX2_clique_12 : decode cX2_clique 12 = .ok (.iload_n 3, 1) := by decide +kernel
theorem dX2_clique_13 : decode cX2_clique 13 = .ok (.iload_n 2, 1) := by decide +kernel
theorem dX2_clique_14 : decode cX2_clique 14 = .ok (.if_icmp .ge 33, 3) := by decide +kernel
theorem dX2_clique_17 : decode cX2_clique 17 = .ok (.iload_n 0, 1) := by decide +kernel
theorem dX2_clique_18 : decode cX2_clique 18 = .ok (.iload_n 3, 1) := by decide +kernel
theorem dX2_clique_19 : decode cX2_clique 19 = .ok (.invokestatic 25, 3) := by decide +kernel
theorem dX2_clique_22 : decode cX2_clique 22 = .ok (.ifCond .eq 19, 3) := by decide +kernel
theorem dX2_clique_25 : decode cX2_clique 25 = .ok (.iload_n 0, 1) := by decide +kernel
theorem dX2_clique_26 : decode cX2_clique 26 = .ok (.iload_n 2, 1) := by decide +kernel
theorem dX2_clique_27 : decode cX2_clique 27 = .ok (.invokestatic 25, 3) := by decide +kernel
theorem dX2_clique_30 : decode cX2_clique 30 = .ok (.ifCond .eq 11, 3) := by decide +kernel
theorem dX2_clique_33 : decode cX2_clique 33 = .ok (.iload_n 1, 1) := by decide +kernel
theorem dX2_clique_34 : decode cX2_clique 34 = .ok (.iload_n 3, 1) := by decide +kernel
theorem dX2_clique_35 : decode cX2_clique 35 = .ok (.iload_n 2, 1) := by decide +kernel
theorem dX2_clique_36 : decode cX2_clique 36 = .ok (.invokestatic 9, 3) := by decide +kernel
theorem dX2_clique_39 : decode cX2_clique 39 = .ok (.ior, 1) := by decide +kernel
theorem dX2_clique_40 : decode cX2_clique 40 = .ok (.istore_n 1, 1) := by decide +kernel
theorem dX2_clique_41 : decode cX2_clique 41 = .ok (.iinc 3 1, 3) := by decide +kernel
theorem dX2_clique_44 : decode cX2_clique 44 = .ok (.goto (-32), 3) := by decide +kernel
theorem dX2_clique_47 : decode cX2_clique 47 = .ok (.iinc 2 1, 3) := by decide +kernel
theorem dX2_clique_50 : decode cX2_clique 50 = .ok (.goto (-46), 3) := by decide +kernel
theorem dX2_clique_53 : decode cX2_clique 53 = .ok (.iload_n 1, 1) := by decide +kernel
theorem dX2_clique_54 : decode cX2_clique 54 = .ok (.ireturn, 1) := by decide +kernel
theorem dX3_init_0 : decode cX3_init 0 = .ok (.aload_n 0, 1) := by decide +kernel
theorem dX3_init_1 : decode cX3_init 1 = .ok (.invokespecial 3, 3) := by decide +kernel
theorem dX3_init_4 : decode cX3_init 4 = .ok (.aload_n 0, 1) := by decide +kernel
theorem dX3_init_5 : decode cX3_init 5 = .ok (.bipush 8, 2) := by decide +kernel
theorem dX3_init_7 : decode cX3_init 7 = .ok (.newarray .int, 2) := by decide +kernel
theorem dX3_init_9 : decode cX3_init 9 = .ok (.putfield 9, 3) := by decide +kernel
theorem dX3_init_12 : decode cX3_init 12 = .ok (.aload_n 0, 1) := by decide +kernel
theorem dX3_init_13 : decode cX3_init 13 = .ok (.bipush 8, 2) := by decide +kernel
theorem dX3_init_15 : decode cX3_init 15 = .ok (.newarray .int, 2) := by decide +kernel
theorem dX3_init_17 : decode cX3_init 17 = .ok (.putfield 15, 3) := by decide +kernel
theorem dX3_init_20 : decode cX3_init 20 = .ok (.aload_n 0, 1) := by decide +kernel
theorem dX3_init_21 : decode cX3_init 21 = .ok (.aload_n 1, 1) := by decide +kernel
theorem dX3_init_22 : decode cX3_init 22 = .ok (.putfield 18, 3) := by decide +kernel
theorem dX3_init_25 : decode cX3_init 25 = .ok (.return_, 1) := by decide +kernel
set_option maxRecDepth 20000 in
theorem ggX3_begin_X6_of : GoodIn wsX3_begin wsX6_of := goodIn_r _ [6] (by decide +kernel) (by decide +kernel)
set_option maxRecDepth 20000 in
theorem gX3_begin_X6_of : GoodIn wsX3_begin (va_wsS RX3 26 yX6_of wsX6_of) := goodIn_app (goodIn_of _ (by decide +kernel)) ggX3_begin_X6_of
theorem dX3_begin_0 : decode cX3_begin 0 = .ok (.aload_n 0, 1) := by decide +kernel
theorem dX3_begin_1 : decode cX3_begin 1 = .ok (.iload_n 1, 1) := by decide +kernel
theorem dX3_begin_2 : decode cX3_begin 2 = .ok (.putfield 22, 3) := by decide +kernel
theorem dX3_begin_5 : decode cX3_begin 5 = .ok (.iconst 0, 1) := by decide +kernel
theorem dX3_begin_6 : decode cX3_begin 6 = .ok (.istore_n 2, 1) := by decide +kernel
theorem dX3_begin_7 : decode cX3_begin 7 = .ok (.iload_n 2, 1) := by decide +kernel
theorem dX3_begin_8 : decode cX3_begin 8 = .ok (.bipush 8, 2) := by decide +kernel
theorem dX3_begin_10 : decode cX3_begin 10 = .ok (.if_icmp .ge 19, 3) := by decide +kernel
theorem dX3_begin_13 : decode cX3_begin 13 = .ok (.aload_n 0, 1) := by decide +kernel
theorem dX3_begin_14 : decode cX3_begin 14 = .ok (.getfield 9, 3) := by decide +kernel
theorem dX3_begin_17 : decode cX3_begin 17 = .ok (.iload_n 2, 1) := by decide +kernel
theorem dX3_begin_18 : decode cX3_begin 18 = .ok (.iload_n 2, 1) := by decide +kernel
theorem dX3_begin_19 : decode cX3_begin 19 = .ok (.invokestatic 26, 3) := by decide +kernel
theorem dX3_begin_22 : decode cX3_begin 22 = .ok (.iastore, 1) := by decide +kernel
theorem dX3_begin_23 : decode cX3_begin 23 = .ok (.iinc 2 1, 3) := by decide +kernel
theorem dX3_begin_26 : decode cX3_begin 26 = .ok (.goto (-19), 3) := by decide +kernel
theorem dX3_begin_29 : decode cX3_begin 29 = .ok (.return_, 1) := by decide +kernel
set_option maxRecDepth 20000 in
theorem ggX3_advance_X7_edgesAtStep : GoodIn wsX3_advance wsX7_edgesAtStep := goodIn_r _ [9, 10, 11, 28, 29, 30, 31] (by decide +kernel) (by decide +kernel)
set_option maxRecDepth 20000 in
theorem gX3_advance_X7_edgesAtStep : GoodIn wsX3_advance (wsV RX3 32 RX7 yX7_edgesAtStep wsX7_edgesAtStep) := goodIn_app (goodIn_of _ (by decide +kernel)) ggX3_advance_X7_edgesAtStep
set_option maxRecDepth 20000 in
theorem ggX3_advance_X7_nodes : GoodIn wsX3_advance wsX7_nodes := goodIn_r _ [15, 16, 28, 29, 30, 31] (by decide +kernel) (by decide +kernel)
set_option maxRecDepth 20000 in
theorem gX3_advance_X7_nodes : GoodIn wsX3_advance (wsV RX3 37 RX7 yX7_nodes wsX7_nodes) := goodIn_app (goodIn_of _ (by decide +kernel)) ggX3_advance_X7_nodes
set_option maxRecDepth 20000 in
theorem ggX3_advance_X2_connects : GoodIn wsX3_advance wsX2_connects := goodIn_r _ [20, 21, 22, 19, 23] (by decide +kernel) (by decide +kernel)
set_option maxRecDepth 20000 in
theorem gX3_advance_X2_connects : GoodIn wsX3_advance (va_wsS RX3 41 yX2_connects wsX2_connects) := goodIn_app (goodIn_of _ (by decide +kernel)) ggX3_advance_X2_connects
theorem dX3_advance_0 : decode cX3_advance 0 = .ok (.aload_n 0, 1) := by decide +kernel
theorem dX3_advance_1 : decode cX3_advance 1 = .ok (.getfield 18, 3) := by decide +kernel
theorem dX3_advance_4 : decode cX3_advance 4 = .ok (.aload_n 0, 1) := by decide +kernel
theorem dX3_advance_5 : decode cX3_advance 5 = .ok (.getfield 22, 3) := by decide +kernel
theorem dX3_advance_8 : decode cX3_advance 8 = .ok (.invokevirtual 32, 3) := by decide +kernel
theorem dX3_advance_11 : decode cX3_advance 11 = .ok (.istore_n 1, 1) := by decide +kernel
theorem dX3_advance_12 : decode cX3_advance 12 = .ok (.iconst 0, 1) := by decide +kernel
theorem dX3_advance_13 : decode cX3_advance 13 = .ok (.istore_n 2, 1) := by decide +kernel
theorem dX3_advance_14 : decode cX3_advance 14 = .ok (.iload_n 2, 1) := by decide +kernel
theorem dX3_advance_15 : decode cX3_advance 15 = .ok (.bipush 8, 2) := by decide +kernel
theorem dX3_advance_17 : decode cX3_advance 17 = .ok (.if_icmp .ge 21, 3) := by decide +kernel
theorem dX3_advance_20 : decode cX3_advance 20 = .ok (.aload_n 0, 1) := by decide +kernel
theorem dX3_advance_21 : decode cX3_advance 21 = .ok (.getfield 15, 3) := by decide +kernel
theorem dX3_advance_24 : decode cX3_advance 24 = .ok (.iload_n 2, 1) := by decide +kernel
theorem dX3_advance_25 : decode cX3_advance 25 = .ok (.aload_n 0, 1) := by decide +kernel
theorem dX3_advance_26 : decode cX3_advance 26 = .ok (.getfield 9, 3) := by decide +kernel
theorem dX3_advance_29 : decode cX3_advance 29 = .ok (.iload_n 2, 1) := by decide +kernel
theorem dX3_advance_30 : decode cX3_advance 30 = .ok (.iaload, 1) := by decide +kernel
theorem dX3_advance_31 : decode cX3_advance 31 = .ok (.iastore, 1) := by decide +kernel
theorem dX3_advance_32 : decode cX3_advance 32 = .ok (.iinc 2 1, 3) := by decide +kernel
theorem dX3_advance_35 : decode cX3_advance 35 = .ok (.goto (-21), 3) := by decide +kernel
theorem dX3_advance_38 : decode cX3_advance 38 = .ok (.iconst 1, 1) := by decide +kernel
theorem dX3_advance_39 : decode cX3_advance 39 = .ok (.istore_n 2, 1) := by decide +kernel
theorem dX3_advance_40 : decode cX3_advance 40 = .ok (.iload_n 2, 1) := by decide +kernel
theorem dX3_advance_41 : decode cX3_advance 41 = .ok (.aload_n 0, 1) := by decide +kernel
theorem dX3_advance_42 : decode cX3_advance 42 = .ok (.getfield 18, 3) := by decide +kernel
theorem dX3_advance_45 : decode cX3_advance 45 = .ok (.invokevirtual 37, 3) := by decide +kernel
theorem dX3_advance_48 : decode cX3_advance 48 = .ok (.if_icmp .ge 61, 3) := by decide +kernel
theorem dX3_advance_51 : decode cX3_advance 51 = .ok (.iconst 0, 1) := by decide +kernel
theorem dX3_advance_52 : decode cX3_advance 52 = .ok (.istore_n 3, 1) := by decide +kernel
theorem dX3_advance_53 : decode cX3_advance 53 = .ok (.iload_n 3, 1) := by decide +kernel
theorem dX3_advance_54 : decode cX3_advance 54 = .ok (.iload_n 2, 1) := by decide +kernel
theorem dX3_advance_55 : decode cX3_advance 55 = .ok (.if_icmp .ge 48, 3) := by decide +kernel
theorem dX3_advance_58 : decode cX3_advance 58 = .ok (.iload_n 1, 1) := by decide +kernel
theorem dX3_advance_59 : decode cX3_advance 59 = .ok (.iload_n 3, 1) := by decide +kernel
theorem dX3_advance_60 : decode cX3_advance 60 = .ok (.iload_n 2, 1) := by decide +kernel
theorem dX3_advance_61 : decode cX3_advance 61 = .ok (.invokestatic 41, 3) := by decide +kernel
theorem dX3_advance_64 : decode cX3_advance 64 = .ok (.ifCond .eq 33, 3) := by decide +kernel
theorem dX3_advance_67 : decode cX3_advance 67 = .ok (.aload_n 0, 1) := by decide +kernel
theorem dX3_advance_68 : decode cX3_advance 68 = .ok (.getfield 9, 3) := by decide +kernel
theorem dX3_advance_71 : decode cX3_advance 71 = .ok (.iload_n 3, 1) := by decide +kernel
theorem dX3_advance_72 : decode cX3_advance 72 = .ok (.dup2, 1) := by decide +kernel
theorem dX3_advance_73 : decode cX3_advance 73 = .ok (.iaload, 1) := by decide +kernel
theorem dX3_advance_74 : decode cX3_advance 74 = .ok (.aload_n 0, 1) := by decide +kernel
theorem dX3_advance_75 : decode cX3_advance 75 = .ok (.getfield 15, 3) := by decide +kernel
theorem dX3_advance_78 : decode cX3_advance 78 = .ok (.iload_n 2, 1) := by decide +kernel
theorem dX3_advance_79 : decode cX3_advance 79 = .ok (.iaload, 1) := by decide +kernel
theorem dX3_advance_80 : decode cX3_advance 80 = .ok (.ior, 1) := by decide +kernel
theorem dX3_advance_81 : decode cX3_advance 81 = .ok (.iastore, 1) := by decide +kernel
theorem dX3_advance_82 : decode cX3_advance 82 = .ok (.aload_n 0, 1) := by decide +kernel
theorem dX3_advance_83 : decode cX3_advance 83 = .ok (.getfield 9, 3) := by decide +kernel
theorem dX3_advance_86 : decode cX3_advance 86 = .ok (.iload_n 2, 1) := by decide +kernel
theorem dX3_advance_87 : decode cX3_advance 87 = .ok (.dup2, 1) := by decide +kernel
theorem dX3_advance_88 : decode cX3_advance 88 = .ok (.iaload, 1) := by decide +kernel
theorem dX3_advance_89 : decode cX3_advance 89 = .ok (.aload_n 0, 1) := by decide +kernel
theorem dX3_advance_90 : decode cX3_advance 90 = .ok (.getfield 15, 3) := by decide +kernel
theorem dX3_advance_93 : decode cX3_advance 93 = .ok (.iload_n 3, 1) := by decide +kernel
theorem dX3_advance_94 : decode cX3_advance 94 = .ok (.iaload, 1) := by decide +kernel
theorem dX3_advance_95 : decode cX3_advance 95 = .ok (.ior, 1) := by decide +kernel
theorem dX3_advance_96 : decode cX3_advance 96 = .ok (.iastore, 1) := by decide +kernel
theorem dX3_advance_97 : decode cX3_advance 97 = .ok (.iinc 3 1, 3) := by decide +kernel
theorem dX3_advance_100 : decode cX3_advance 100 = .ok (.goto (-47), 3) := by decide +kernel
theorem dX3_advance_103 : decode cX3_advance 103 = .ok (.iinc 2 1, 3) := by decide +kernel
theorem dX3_advance_106 : decode cX3_advance 106 = .ok (.goto (-66), 3) := by decide +kernel
theorem dX3_advance_109 : decode cX3_advance 109 = .ok (.aload_n 0, 1) := by decide +kernel
theorem dX3_advance_110 : decode cX3_advance 110 = .ok (.dup, 1) := by decide +kernel
theorem dX3_advance_111 : decode cX3_advance 111 = .ok (.getfield 22, 3) := by decide +kernel
theorem dX3_advance_114 : decode cX3_advance 114 = .ok (.iconst 1, 1) := by decide +kernel
theorem dX3_advance_115 : decode cX3_advance 115 = .ok (.iadd, 1) := by decide +kernel
theorem dX3_advance_116 : decode cX3_advance 116 = .ok (.putfield 22, 3) := by decide +kernel
theorem dX3_advance_119 : decode cX3_advance 119 = .ok (.return_, 1) := by decide +kernel
set_option maxRecDepth 20000 in
theorem ggX3_advanceBy_X3_advance : GoodIn wsX3_advanceBy wsX3_advance := goodIn_r _ [5, 6, 7, 8, 9, 10, 11, 12, 13, 14, 15, 16, 17, 18, 19, 20, 21, 22, 23, 24, 25, 26, 27, 28, 29, 30, 31, 32, 33, 34, 35, 36] (by decide +kernel) (by decide +kernel)
set_option maxRecDepth 20000 in
theorem gX3_advanceBy_X3_advance : GoodIn wsX3_advanceBy (wsV RX3 47 RX3 yX3_advance wsX3_advance) := goodIn_app (goodIn_of _ (by decide +kernel)) ggX3_advanceBy_X3_advance
theorem dX3_advanceBy_0 : decode cX3_advanceBy 0 = .ok (.iconst 0, 1) := by decide +kernel
theorem dX3_advanceBy_1 : decode cX3_advanceBy 1 = .ok (.istore_n 2, 1) := by decide +kernel
theorem dX3_advanceBy_2 : decode cX3_advanceBy 2 = .ok (.iload_n 2, 1) := by decide +kernel
theorem dX3_advanceBy_3 : decode cX3_advanceBy 3 = .ok (.iload_n 1, 1) := by decide +kernel
theorem dX3_advanceBy_4 : decode cX3_advanceBy 4 = .ok (.if_icmp .ge 13, 3) := by decide +kernel
theorem dX3_advanceBy_7 : decode cX3_advanceBy 7 = .ok (.aload_n 0, 1) := by decide +kernel
theorem dX3_advanceBy_8 : decode cX3_advanceBy 8 = .ok (.invokevirtual 47, 3) := by decide +kernel
theorem dX3_advanceBy_11 : decode cX3_advanceBy 11 = .ok (.iinc 2 1, 3) := by decide +kernel
theorem dX3_advanceBy_14 : decode cX3_advanceBy 14 = .ok (.goto (-12), 3) := by decide +kernel
theorem dX3_advanceBy_17 : decode cX3_advanceBy 17 = .ok (.return_, 1) := by decide +kernel
set_option maxRecDepth 20000 in
theorem ggX3_tokensOf_X7_hasNode : GoodIn wsX3_tokensOf wsX7_hasNode := goodIn_r _ [7, 8, 13, 14, 15, 16] (by decide +kernel) (by decide +kernel)
set_option maxRecDepth 20000 in
theorem gX3_tokensOf_X7_hasNode : GoodIn wsX3_tokensOf (wsV RX3 50 RX7 yX7_hasNode wsX7_hasNode) := goodIn_app (goodIn_of _ (by decide +kernel)) ggX3_tokensOf_X7_hasNode
theorem dX3_tokensOf_0 : decode cX3_tokensOf 0 = .ok (.aload_n 0, 1) := by decide +kernel
theorem dX3_tokensOf_1 : decode cX3_tokensOf 1 = .ok (.getfield 18, 3) := by decide +kernel
theorem dX3_tokensOf_4 : decode cX3_tokensOf 4 = .ok (.iload_n 1, 1) := by decide +kernel
theorem dX3_tokensOf_5 : decode cX3_tokensOf 5 = .ok (.invokevirtual 50, 3) := by decide +kernel
theorem dX3_tokensOf_8 : decode cX3_tokensOf 8 = .ok (.ifCond .eq 12, 3) := by decide +kernel
theorem dX3_tokensOf_11 : decode cX3_tokensOf 11 = .ok (.aload_n 0, 1) := by decide +kernel
theorem dX3_tokensOf_12 : decode cX3_tokensOf 12 = .ok (.getfield 9, 3) := by decide +kernel
theorem dX3_tokensOf_15 : decode cX3_tokensOf 15 = .ok (.iload_n 1, 1) := by decide +kernel
theorem dX3_tokensOf_16 : decode cX3_tokensOf 16 = .ok (.iaload, 1) := by decide +kernel
theorem dX3_tokensOf_17 : decode cX3_tokensOf 17 = .ok (.goto 4, 3) := by decide +kernel
theorem dX3_tokensOf_20 : decode cX3_tokensOf 20 = .ok (.iconst 0, 1) := by decide +kernel
theorem dX3_tokensOf_21 : decode cX3_tokensOf 21 = .ok (.ireturn, 1) := by decide +kernel
set_option maxRecDepth 20000 in
theorem ggX3_tokensOfAll_X7_nodes : GoodIn wsX3_tokensOfAll wsX7_nodes := goodIn_r _ [7, 8, 17, 18, 19, 20] (by decide +kernel) (by decide +kernel)
set_option maxRecDepth 20000 in
theorem gX3_tokensOfAll_X7_nodes : GoodIn wsX3_tokensOfAll (wsV RX3 37 RX7 yX7_nodes wsX7_nodes) := goodIn_app (goodIn_of _ (by decide +kernel)) ggX3_tokensOfAll_X7_nodes
set_option maxRecDepth 20000 in
theorem ggX3_tokensOfAll_X6_firstOnes : GoodIn wsX3_tokensOfAll wsX6_firstOnes := goodIn_r _ [12] (by decide +kernel) (by decide +kernel)
set_option maxRecDepth 20000 in
theorem gX3_tokensOfAll_X6_firstOnes : GoodIn wsX3_tokensOfAll (va_wsS RX3 54 yX6_firstOnes wsX6_firstOnes) := goodIn_app (goodIn_of _ (by decide +kernel)) ggX3_tokensOfAll_X6_firstOnes
theorem dX3_tokensOfAll_0 : decode cX3_tokensOfAll 0 = .ok (.aload_n 0, 1) := by decide +kernel
theorem dX3_tokensOfAll_1 : decode cX3_tokensOfAll 1 = .ok (.getfield 18, 3) := by decide +kernel
theorem dX3_tokensOfAll_4 : decode cX3_tokensOfAll 4 = .ok (.invokevirtual 37, 3) := by decide +kernel
theorem dX3_tokensOfAll_7 : decode cX3_tokensOfAll 7 = .ok (.invokestatic 54, 3) := by decide +kernel
theorem dX3_tokensOfAll_10 : decode cX3_tokensOfAll 10 = .ok (.istore_n 1, 1) := by decide +kernel
theorem dX3_tokensOfAll_11 : decode cX3_tokensOfAll 11 = .ok (.iconst 0, 1) := by decide +kernel
theorem dX3_tokensOfAll_12 : decode cX3_tokensOfAll 12 = .ok (.istore_n 2, 1) := by decide +kernel
theorem dX3_tokensOfAll_13 : decode cX3_tokensOfAll 13 = .ok (.iload_n 2, 1) := by decide +kernel
theorem dX3_tokensOfAll_14 : decode cX3_tokensOfAll 14 = .ok (.aload_n 0, 1) := by decide +kernel
theorem dX3_tokensOfAll_15 : decode cX3_tokensOfAll 15 = .ok (.getfield 18, 3) := by decide +kernel
theorem dX3_tokensOfAll_18 : decode cX3_tokensOfAll 18 = .ok (.invokevirtual 37, 3) := by decide +kernel
theorem dX3_tokensOfAll_21 : decode cX3_tokensOfAll 21 = .ok (.if_icmp .ge 18, 3) := by decide +kernel
theorem dX3_tokensOfAll_24 : decode cX3_tokensOfAll 24 = .ok (.iload_n 1, 1) := by decide +kernel
theorem dX3_tokensOfAll_25 : decode cX3_tokensOfAll 25 = .ok (.aload_n 0, 1) := by decide +kernel
theorem dX3_tokensOfAll_26 : decode cX3_tokensOfAll 26 = .ok (.getfield 9, 3) := by decide +kernel
theorem dX3_tokensOfAll_29 : decode cX3_tokensOfAll 29 = .ok (.iload_n 2, 1) := by decide +kernel
theorem dX3_tokensOfAll_30 : decode cX3_tokensOfAll 30 = .ok (.iaload, 1) := by decide +kernel
theorem dX3_tokensOfAll_31 : decode cX3_tokensOfAll 31 = .ok (.iand, 1) := by decide +kernel
theorem dX3_tokensOfAll_32 : decode cX3_tokensOfAll 32 = .ok (.istore_n 1, 1) := by decide +kernel
theorem dX3_tokensOfAll_33 : decode cX3_tokensOfAll 33 = .ok (.iinc 2 1, 3) := by decide +kernel
theorem dX3_tokensOfAll_36 : decode cX3_tokensOfAll 36 = .ok (.goto (-23), 3) := by decide +kernel
theorem dX3_tokensOfAll_39 : decode cX3_tokensOfAll 39 = .ok (.iload_n 1, 1) := by decide +kernel
theorem dX3_tokensOfAll_40 : decode cX3_tokensOfAll 40 = .ok (.ireturn, 1) := by decide +kernel
set_option maxRecDepth 20000 in
theorem ggX3_knowersOf_X7_nodes : GoodIn wsX3_knowersOf wsX7_nodes := goodIn_r _ [7, 8, 20, 21, 22, 23] (by decide +kernel) (by decide +kernel)
set_option maxRecDepth 20000 in
theorem gX3_knowersOf_X7_nodes : GoodIn wsX3_knowersOf (wsV RX3 37 RX7 yX7_nodes wsX7_nodes) := goodIn_app (goodIn_of _ (by decide +kernel)) ggX3_knowersOf_X7_nodes
set_option maxRecDepth 20000 in
theorem ggX3_knowersOf_X6_has : GoodIn wsX3_knowersOf wsX6_has := goodIn_r _ [12] (by decide +kernel) (by decide +kernel)
set_option maxRecDepth 20000 in
theorem gX3_knowersOf_X6_has : GoodIn wsX3_knowersOf (va_wsS RX3 57 yX6_has wsX6_has) := goodIn_app (goodIn_of _ (by decide +kernel)) ggX3_knowersOf_X6_has
set_option maxRecDepth 20000 in
theorem ggX3_knowersOf_X6_of : GoodIn wsX3_knowersOf wsX6_of := goodIn_r _ [15] (by decide +kernel) (by decide +kernel)
set_option maxRecDepth 20000 in
theorem gX3_knowersOf_X6_of : GoodIn wsX3_knowersOf (va_wsS RX3 26 yX6_of wsX6_of) := goodIn_app (goodIn_of _ (by decide +kernel)) ggX3_knowersOf_X6_of
theorem dX3_knowersOf_0 : decode cX3_knowersOf 0 = .ok (.iconst 0, 1) := by decide +kernel
theorem dX3_knowersOf_1 : decode cX3_knowersOf 1 = .ok (.istore_n 2, 1) := by decide +kernel
theorem dX3_knowersOf_2 : decode cX3_knowersOf 2 = .ok (.iconst 0, 1) := by decide +kernel
theorem dX3_knowersOf_3 : decode cX3_knowersOf 3 = .ok (.istore_n 3, 1) := by decide +kernel
theorem dX3_knowersOf_4 : decode cX3_knowersOf 4 = .ok (.iload_n 3, 1) := by decide +kernel
theorem dX3_knowersOf_5 : decode cX3_knowersOf 5 = .ok (.aload_n 0, 1) := by decide +kernel
theorem dX3_knowersOf_6 : decode cX3_knowersOf 6 = .ok (.getfield 18, 3) := by decide +kernel
theorem dX3_knowersOf_9 : decode cX3_knowersOf 9 = .ok (.invokevirtual 37, 3) := by decide +kernel
theorem dX3_knowersOf_12 : decode cX3_knowersOf 12 = .ok (.if_icmp .ge 29, 3) := by decide +kernel
theorem dX3_knowersOf_15 : decode cX3_knowersOf 15 = .ok (.aload_n 0, 1) := by decide +kernel
theorem dX3_knowersOf_16 : decode cX3_knowersOf 16 = .ok (.getfield 9, 3) := by decide +kernel
theorem dX3_knowersOf_19 : decode cX3_knowersOf 19 = .ok (.iload_n 3, 1) := by decide +kernel
theorem dX3_knowersOf_20 : decode cX3_knowersOf 20 = .ok (.iaload, 1) := by decide +kernel
theorem dX3_knowersOf_21 : decode cX3_knowersOf 21 = .ok (.iload_n 1, 1) := by decide +kernel
theorem dX3_knowersOf_22 : decode cX3_knowersOf 22 = .ok (.invokestatic 57, 3) := by decide +kernel
theorem dX3_knowersOf_25 : decode cX3_knowersOf 25 = .ok (.ifCond .eq 10, 3) := by decide +kernel
theorem dX3_knowersOf_28 : decode cX3_knowersOf 28 = .ok (.iload_n 2, 1) := by decide +kernel
theorem dX3_knowersOf_29 : decode cX3_knowersOf 29 = .ok (.iload_n 3, 1) := by decide +kernel
theorem dX3_knowersOf_30 : decode cX3_knowersOf 30 = .ok (.invokestatic 26, 3) := by decide +kernel
theorem dX3_knowersOf_33 : decode cX3_knowersOf 33 = .ok (.ior, 1) := by decide +kernel
theorem dX3_knowersOf_34 : decode cX3_knowersOf 34 = .ok (.istore_n 2, 1) := by decide +kernel
theorem dX3_knowersOf_35 : decode cX3_knowersOf 35 = .ok (.iinc 3 1, 3) := by decide +kernel
theorem dX3_knowersOf_38 : decode cX3_knowersOf 38 = .ok (.goto (-34), 3) := by decide +kernel
theorem dX3_knowersOf_41 : decode cX3_knowersOf 41 = .ok (.iload_n 2, 1) := by decide +kernel
theorem dX3_knowersOf_42 : decode cX3_knowersOf 42 = .ok (.ireturn, 1) := by decide +kernel
theorem dX4_init_0 : decode cX4_init 0 = .ok (.aload_n 0, 1) := by decide +kernel
theorem dX4_init_1 : decode cX4_init 1 = .ok (.invokespecial 3, 3) := by decide +kernel
theorem dX4_init_4 : decode cX4_init 4 = .ok (.aload_n 0, 1) := by decide +kernel
theorem dX4_init_5 : decode cX4_init 5 = .ok (.bipush 8, 2) := by decide +kernel
theorem dX4_init_7 : decode cX4_init 7 = .ok (.newarray .int, 2) := by decide +kernel
theorem dX4_init_9 : decode cX4_init 9 = .ok (.putfield 9, 3) := by decide +kernel
theorem dX4_init_12 : decode cX4_init 12 = .ok (.aload_n 0, 1) := by decide +kernel
theorem dX4_init_13 : decode cX4_init 13 = .ok (.bipush 8, 2) := by decide +kernel
theorem dX4_init_15 : decode cX4_init 15 = .ok (.newarray .int, 2) := by decide +kernel
theorem dX4_init_17 : decode cX4_init 17 = .ok (.putfield 15, 3) := by decide +kernel
theorem dX4_init_20 : decode cX4_init 20 = .ok (.aload_n 0, 1) := by decide +kernel
theorem dX4_init_21 : decode cX4_init 21 = .ok (.bipush 8, 2) := by decide +kernel
theorem dX4_init_23 : decode cX4_init 23 = .ok (.newarray .int, 2) := by decide +kernel
theorem dX4_init_25 : decode cX4_init 25 = .ok (.putfield 18, 3) := by decide +kernel
theorem dX4_init_28 : decode cX4_init 28 = .ok (.aload_n 0, 1) := by decide +kernel
theorem dX4_init_29 : decode cX4_init 29 = .ok (.bipush 8, 2) := by decide +kernel
theorem dX4_init_31 : decode cX4_init 31 = .ok (.newarray .int, 2) := by decide +kernel
theorem dX4_init_33 : decode cX4_init 33 = .ok (.putfield 21, 3) := by decide +kernel
theorem dX4_init_36 : decode cX4_init 36 = .ok (.aload_n 0, 1) := by decide +kernel
theorem dX4_init_37 : decode cX4_init 37 = .ok (.aload_n 1, 1) := by decide +kernel
theorem dX4_init_38 : decode cX4_init 38 = .ok (.putfield 24, 3) := by decide +kernel
theorem dX4_init_41 : decode cX4_init 41 = .ok (.return_, 1) := by decide +kernel
set_option maxRecDepth 20000 in
theorem ggX4_begin_X6_of : GoodIn wsX4_begin wsX6_of := goodIn_r _ [9] (by decide +kernel) (by decide +kernel)
set_option maxRecDepth 20000 in
theorem gX4_begin_X6_of : GoodIn wsX4_begin (va_wsS RX4 35 yX6_of wsX6_of) := goodIn_app (goodIn_of _ (by decide +kernel)) ggX4_begin_X6_of
theorem dX4_begin_0 : decode cX4_begin 0 = .ok (.aload_n 0, 1) := by decide +kernel
theorem dX4_begin_1 : decode cX4_begin 1 = .ok (.iload_n 1, 1) := by decide +kernel
theorem dX4_begin_2 : decode cX4_begin 2 = .ok (.putfield 28, 3) := by decide +kernel
theorem dX4_begin_5 : decode cX4_begin 5 = .ok (.aload_n 0, 1) := by decide +kernel
theorem dX4_begin_6 : decode cX4_begin 6 = .ok (.iconst 0, 1) := by decide +kernel
theorem dX4_begin_7 : decode cX4_begin 7 = .ok (.putfield 32, 3) := by decide +kernel
theorem dX4_begin_10 : decode cX4_begin 10 = .ok (.iconst 0, 1) := by decide +kernel
theorem dX4_begin_11 : decode cX4_begin 11 = .ok (.istore_n 2, 1) := by decide +kernel
theorem dX4_begin_12 : decode cX4_begin 12 = .ok (.iload_n 2, 1) := by decide +kernel
theorem dX4_begin_13 : decode cX4_begin 13 = .ok (.bipush 8, 2) := by decide +kernel
theorem dX4_begin_15 : decode cX4_begin 15 = .ok (.if_icmp .ge 33, 3) := by decide +kernel
theorem dX4_begin_18 : decode cX4_begin 18 = .ok (.aload_n 0, 1) := by decide +kernel
theorem dX4_begin_19 : decode cX4_begin 19 = .ok (.getfield 9, 3) := by decide +kernel
theorem dX4_begin_22 : decode cX4_begin 22 = .ok (.iload_n 2, 1) := by decide +kernel
theorem dX4_begin_23 : decode cX4_begin 23 = .ok (.iload_n 2, 1) := by decide +kernel
theorem dX4_begin_24 : decode cX4_begin 24 = .ok (.invokestatic 35, 3) := by decide +kernel
theorem dX4_begin_27 : decode cX4_begin 27 = .ok (.iastore, 1) := by decide +kernel
theorem dX4_begin_28 : decode cX4_begin 28 = .ok (.aload_n 0, 1) := by decide +kernel
theorem dX4_begin_29 : decode cX4_begin 29 = .ok (.getfield 15, 3) := by decide +kernel
theorem dX4_begin_32 : decode cX4_begin 32 = .ok (.iload_n 2, 1) := by decide +kernel
theorem dX4_begin_33 : decode cX4_begin 33 = .ok (.iconst 0, 1) := by decide +kernel
theorem dX4_begin_34 : decode cX4_begin 34 = .ok (.iastore, 1) := by decide +kernel
theorem dX4_begin_35 : decode cX4_begin 35 = .ok (.aload_n 0, 1) := by decide +kernel
theorem dX4_begin_36 : decode cX4_begin 36 = .ok (.getfield 18, 3) := by decide +kernel
theorem dX4_begin_39 : decode cX4_begin 39 = .ok (.iload_n 2, 1) := by decide +kernel
theorem dX4_begin_40 : decode cX4_begin 40 = .ok (.iload_n 2, 1) := by decide +kernel
theorem dX4_begin_41 : decode cX4_begin 41 = .ok (.iastore, 1) := by decide +kernel
theorem dX4_begin_42 : decode cX4_begin 42 = .ok (.iinc 2 1, 3) := by decide +kernel
theorem dX4_begin_45 : decode cX4_begin 45 = .ok (.goto (-33), 3) := by decide +kernel
theorem dX4_begin_48 : decode cX4_begin 48 = .ok (.return_, 1) := by decide +kernel
set_option maxRecDepth 20000 in
theorem ggX4_advance_X7_nodes : GoodIn wsX4_advance wsX7_nodes := goodIn_r _ [9, 10, 65, 66, 67, 68] (by decide +kernel) (by decide +kernel)
set_option maxRecDepth 20000 in
theorem gX4_advance_X7_nodes : GoodIn wsX4_advance (wsV RX4 41 RX7 yX7_nodes wsX7_nodes) := goodIn_app (goodIn_of _ (by decide +kernel)) ggX4_advance_X7_nodes
set_option maxRecDepth 20000 in
theorem ggX4_advance_X4_choice : GoodIn wsX4_advance wsX4_choice := goodIn_r _ [15, 16, 17, 3, 18, 1, 4, 19, 20, 21, 22, 23, 24, 25, 5, 6, 7, 8, 9, 10, 26, 58, 59, 60, 61, 62, 63, 64, 65, 66, 67, 68] (by decide +kernel) (by decide +kernel)
set_option maxRecDepth 20000 in
theorem gX4_advance_X4_choice : GoodIn wsX4_advance (wsV RX4 47 RX4 yX4_choice wsX4_choice) := goodIn_app (goodIn_of _ (by decide +kernel)) ggX4_advance_X4_choice
set_option maxRecDepth 20000 in
theorem ggX4_advance_X6_of : GoodIn wsX4_advance wsX6_of := goodIn_r _ [29] (by decide +kernel) (by decide +kernel)
set_option maxRecDepth 20000 in
theorem gX4_advance_X6_of : GoodIn wsX4_advance (va_wsS RX4 35 yX6_of wsX6_of) := goodIn_app (goodIn_of _ (by decide +kernel)) ggX4_advance_X6_of
set_option maxRecDepth 20000 in
theorem ggX4_advance_X7_edgesAtStep : GoodIn wsX4_advance wsX7_edgesAtStep := goodIn_r _ [33, 34, 35, 65, 66, 67, 68] (by decide +kernel) (by decide +kernel)
set_option maxRecDepth 20000 in
theorem gX4_advance_X7_edgesAtStep : GoodIn wsX4_advance (wsV RX4 50 RX7 yX7_edgesAtStep wsX7_edgesAtStep) := goodIn_app (goodIn_of _ (by decide +kernel)) ggX4_advance_X7_edgesAtStep
set_option maxRecDepth 20000 in
theorem ggX4_advance_X2_neighbours : GoodIn wsX4_advance wsX2_neighbours := goodIn_r _ [39, 40, 41, 38, 42, 43, 44, 45, 46, 28, 21, 29] (by decide +kernel) (by decide +kernel)
set_option maxRecDepth 20000 in
theorem gX4_advance_X2_neighbours : GoodIn wsX4_advance (va_wsS RX4 53 yX2_neighbours wsX2_neighbours) := goodIn_app (goodIn_of _ (by decide +kernel)) ggX4_advance_X2_neighbours
set_option maxRecDepth 20000 in
theorem ggX4_advance_X4_tokensSentBy : GoodIn wsX4_advance wsX4_tokensSentBy := goodIn_r _ [50, 1, 2, 5, 6, 7, 8, 9, 10, 26, 24, 21, 25, 27, 28, 29, 58, 59, 60, 61, 62, 63, 64, 65, 66, 67, 68] (by decide +kernel) (by decide +kernel)
set_option maxRecDepth 20000 in
theorem gX4_advance_X4_tokensSentBy : GoodIn wsX4_advance (wsV RX4 59 RX4 yX4_tokensSentBy wsX4_tokensSentBy) := goodIn_app (goodIn_of _ (by decide +kernel)) ggX4_advance_X4_tokensSentBy
set_option maxRecDepth 20000 in
theorem ggX4_advance_X4_learn : GoodIn wsX4_advance wsX4_learn := goodIn_r _ [54, 17, 18, 55, 56, 21, 57, 23, 24, 25, 58, 59, 60, 61, 62, 63, 64] (by decide +kernel) (by decide +kernel)
set_option maxRecDepth 20000 in
theorem gX4_advance_X4_learn : GoodIn wsX4_advance (wsV RX4 62 RX4 yX4_learn wsX4_learn) := goodIn_app (goodIn_of _ (by decide +kernel)) ggX4_advance_X4_learn
theorem dX4_advance_0 : decode cX4_advance 0 = .ok (.iconst 0, 1) := by decide +kernel
theorem dX4_advance_1 : decode cX4_advance 1 = .ok (.istore_n 1, 1) := by decide +kernel
theorem dX4_advance_2 : decode cX4_advance 2 = .ok (.iload_n 1, 1) := by decide +kernel
theorem dX4_advance_3 : decode cX4_advance 3 = .ok (.aload_n 0, 1) := by decide +kernel
theorem dX4_advance_4 : decode cX4_advance 4 = .ok (.getfield 24, 3) := by decide +kernel
theorem dX4_advance_7 : decode cX4_advance 7 = .ok (.invokevirtual 41, 3) := by decide +kernel
theorem dX4_advance_10 : decode cX4_advance 10 = .ok (.if_icmp .ge 38, 3) := by decide +kernel
theorem dX4_advance_13 : decode cX4_advance 13 = .ok (.aload_n 0, 1) := by decide +kernel
theorem dX4_advance_14 : decode cX4_advance 14 = .ok (.getfield 21, 3) := by decide +kernel
theorem dX4_advance_17 : decode cX4_advance 17 = .ok (.iload_n 1, 1) := by decide +kernel
theorem dX4_advance_18 : decode cX4_advance 18 = .ok (.aload_n 0, 1) := by decide +kernel
theorem dX4_advance_19 : decode cX4_advance 19 = .ok (.iload_n 1, 1) := by decide +kernel
theorem dX4_advance_20 : decode cX4_advance 20 = .ok (.invokevirtual 47, 3) := by decide +kernel
theorem dX4_advance_23 : decode cX4_advance 23 = .ok (.iastore, 1) := by decide +kernel
theorem dX4_advance_24 : decode cX4_advance 24 = .ok (.aload_n 0, 1) := by decide +kernel
theorem dX4_advance_25 : decode cX4_advance 25 = .ok (.getfield 15, 3) := by decide +kernel
theorem dX4_advance_28 : decode cX4_advance 28 = .ok (.iload_n 1, 1) := by decide +kernel
theorem dX4_advance_29 : decode cX4_advance 29 = .ok (.dup2, 1) := by decide +kernel
theorem dX4_advance_30 : decode cX4_advance 30 = .ok (.iaload, 1) := by decide +kernel
theorem dX4_advance_31 : decode cX4_advance 31 = .ok (.aload_n 0, 1) := by decide +kernel
theorem dX4_advance_32 : decode cX4_advance 32 = .ok (.getfield 21, 3) := by decide +kernel
theorem dX4_advance_35 : decode cX4_advance 35 = .ok (.iload_n 1, 1) := by decide +kernel
theorem dX4_advance_36 : decode cX4_advance 36 = .ok (.iaload, 1) := by decide +kernel
theorem dX4_advance_37 : decode cX4_advance 37 = .ok (.invokestatic 35, 3) := by decide +kernel
theorem dX4_advance_40 : decode cX4_advance 40 = .ok (.ior, 1) := by decide +kernel
theorem dX4_advance_41 : decode cX4_advance 41 = .ok (.iastore, 1) := by decide +kernel
theorem dX4_advance_42 : decode cX4_advance 42 = .ok (.iinc 1 1, 3) := by decide +kernel
theorem dX4_advance_45 : decode cX4_advance 45 = .ok (.goto (-43), 3) := by decide +kernel
theorem dX4_advance_48 : decode cX4_advance 48 = .ok (.aload_n 0, 1) := by decide +kernel
theorem dX4_advance_49 : decode cX4_advance 49 = .ok (.getfield 24, 3) := by decide +kernel
theorem dX4_advance_52 : decode cX4_advance 52 = .ok (.aload_n 0, 1) := by decide +kernel
theorem dX4_advance_53 : decode cX4_advance 53 = .ok (.getfield 32, 3) := by decide +kernel
theorem dX4_advance_56 : decode cX4_advance 56 = .ok (.invokevirtual 50, 3) := by decide +kernel
theorem dX4_advance_59 : decode cX4_advance 59 = .ok (.istore_n 1, 1) := by decide +kernel
theorem dX4_advance_60 : decode cX4_advance 60 = .ok (.iconst 0, 1) := by decide +kernel
theorem dX4_advance_61 : decode cX4_advance 61 = .ok (.istore_n 2, 1) := by decide +kernel
theorem dX4_advance_62 : decode cX4_advance 62 = .ok (.iload_n 2, 1) := by decide +kernel
theorem dX4_advance_63 : decode cX4_advance 63 = .ok (.aload_n 0, 1) := by decide +kernel
theorem dX4_advance_64 : decode cX4_advance 64 = .ok (.getfield 24, 3) := by decide +kernel
theorem dX4_advance_67 : decode cX4_advance 67 = .ok (.invokevirtual 41, 3) := by decide +kernel
theorem dX4_advance_70 : decode cX4_advance 70 = .ok (.if_icmp .ge 30, 3) := by decide +kernel
theorem dX4_advance_73 : decode cX4_advance 73 = .ok (.aload_n 0, 1) := by decide +kernel
theorem dX4_advance_74 : decode cX4_advance 74 = .ok (.iload_n 2, 1) := by decide +kernel
theorem dX4_advance_75 : decode cX4_advance 75 = .ok (.aload_n 0, 1) := by decide +kernel
theorem dX4_advance_76 : decode cX4_advance 76 = .ok (.iload_n 1, 1) := by decide +kernel
theorem dX4_advance_77 : decode cX4_advance 77 = .ok (.iload_n 2, 1) := by decide +kernel
theorem dX4_advance_78 : decode cX4_advance 78 = .ok (.aload_n 0, 1) := by decide +kernel
theorem dX4_advance_79 : decode cX4_advance 79 = .ok (.getfield 24, 3) := by decide +kernel
theorem dX4_advance_82 : decode cX4_advance 82 = .ok (.invokevirtual 41, 3) := by decide +kernel
theorem dX4_advance_85 : decode cX4_advance 85 = .ok (.invokestatic 53, 3) := by decide +kernel
theorem dX4_advance_88 : decode cX4_advance 88 = .ok (.invokevirtual 59, 3) := by decide +kernel
theorem dX4_advance_91 : decode cX4_advance 91 = .ok (.invokevirtual 62, 3) := by decide +kernel
theorem dX4_advance_94 : decode cX4_advance 94 = .ok (.iinc 2 1, 3) := by decide +kernel
theorem dX4_advance_97 : decode cX4_advance 97 = .ok (.goto (-35), 3) := by decide +kernel
theorem dX4_advance_100 : decode cX4_advance 100 = .ok (.aload_n 0, 1) := by decide +kernel
theorem dX4_advance_101 : decode cX4_advance 101 = .ok (.dup, 1) := by decide +kernel
theorem dX4_advance_102 : decode cX4_advance 102 = .ok (.getfield 32, 3) := by decide +kernel
theorem dX4_advance_105 : decode cX4_advance 105 = .ok (.iconst 1, 1) := by decide +kernel
theorem dX4_advance_106 : decode cX4_advance 106 = .ok (.iadd, 1) := by decide +kernel
theorem dX4_advance_107 : decode cX4_advance 107 = .ok (.putfield 32, 3) := by decide +kernel
theorem dX4_advance_110 : decode cX4_advance 110 = .ok (.return_, 1) := by decide +kernel
set_option maxRecDepth 20000 in
theorem ggX4_tokensOf_X7_hasNode : GoodIn wsX4_tokensOf wsX7_hasNode := goodIn_r _ [7, 8, 16, 17, 18, 19] (by decide +kernel) (by decide +kernel)
set_option maxRecDepth 20000 in
theorem gX4_tokensOf_X7_hasNode : GoodIn wsX4_tokensOf (wsV RX4 66 RX7 yX7_hasNode wsX7_hasNode) := goodIn_app (goodIn_of _ (by decide +kernel)) ggX4_tokensOf_X7_hasNode
theorem dX4_tokensOf_0 : decode cX4_tokensOf 0 = .ok (.aload_n 0, 1) := by decide +kernel
theorem dX4_tokensOf_1 : decode cX4_tokensOf 1 = .ok (.getfield 24, 3) := by decide +kernel
theorem dX4_tokensOf_4 : decode cX4_tokensOf 4 = .ok (.iload_n 1, 1) := by decide +kernel
theorem dX4_tokensOf_5 : decode cX4_tokensOf 5 = .ok (.invokevirtual 66, 3) := by decide +kernel
theorem dX4_tokensOf_8 : decode cX4_tokensOf 8 = .ok (.ifCond .eq 12, 3) := by decide +kernel
theorem dX4_tokensOf_11 : decode cX4_tokensOf 11 = .ok (.aload_n 0, 1) := by decide +kernel
theorem dX4_tokensOf_12 : decode cX4_tokensOf 12 = .ok (.getfield 9, 3) := by decide +kernel
theorem dX4_tokensOf_15 : decode cX4_tokensOf 15 = .ok (.iload_n 1, 1) := by decide +kernel
theorem dX4_tokensOf_16 : decode cX4_tokensOf 16 = .ok (.iaload, 1) := by decide +kernel
theorem dX4_tokensOf_17 : decode cX4_tokensOf 17 = .ok (.goto 4, 3) := by decide +kernel
theorem dX4_tokensOf_20 : decode cX4_tokensOf 20 = .ok (.iconst 0, 1) := by decide +kernel
theorem dX4_tokensOf_21 : decode cX4_tokensOf 21 = .ok (.ireturn, 1) := by decide +kernel
set_option maxRecDepth 20000 in
theorem ggX4_allKnowAll_X7_nodes : GoodIn wsX4_allKnowAll wsX7_nodes := goodIn_r _ [7, 8, 20, 21, 22, 23] (by decide +kernel) (by decide +kernel)
set_option maxRecDepth 20000 in
theorem gX4_allKnowAll_X7_nodes : GoodIn wsX4_allKnowAll (wsV RX4 41 RX7 yX7_nodes wsX7_nodes) := goodIn_app (goodIn_of _ (by decide +kernel)) ggX4_allKnowAll_X7_nodes
set_option maxRecDepth 20000 in
theorem ggX4_allKnowAll_X6_firstOnes : GoodIn wsX4_allKnowAll wsX6_firstOnes := goodIn_r _ [12] (by decide +kernel) (by decide +kernel)
set_option maxRecDepth 20000 in
theorem gX4_allKnowAll_X6_firstOnes : GoodIn wsX4_allKnowAll (va_wsS RX4 70 yX6_firstOnes wsX6_firstOnes) := goodIn_app (goodIn_of _ (by decide +kernel)) ggX4_allKnowAll_X6_firstOnes
theorem dX4_allKnowAll_0 : decode cX4_allKnowAll 0 = .ok (.iconst 0, 1) := by decide +kernel
theorem dX4_allKnowAll_1 : decode cX4_allKnowAll 1 = .ok (.istore_n 1, 1) := by decide +kernel
theorem dX4_allKnowAll_2 : decode cX4_allKnowAll 2 = .ok (.iload_n 1, 1) := by decide +kernel
theorem dX4_allKnowAll_3 : decode cX4_allKnowAll 3 = .ok (.aload_n 0, 1) := by decide +kernel
theorem dX4_allKnowAll_4 : decode cX4_allKnowAll 4 = .ok (.getfield 24, 3) := by decide +kernel
theorem dX4_allKnowAll_7 : decode cX4_allKnowAll 7 = .ok (.invokevirtual 41, 3) := by decide +kernel
theorem dX4_allKnowAll_10 : decode cX4_allKnowAll 10 = .ok (.if_icmp .ge 30, 3) := by decide +kernel
theorem dX4_allKnowAll_13 : decode cX4_allKnowAll 13 = .ok (.aload_n 0, 1) := by decide +kernel
theorem dX4_allKnowAll_14 : decode cX4_allKnowAll 14 = .ok (.getfield 9, 3) := by decide +kernel
theorem dX4_allKnowAll_17 : decode cX4_allKnowAll 17 = .ok (.iload_n 1, 1) := by decide +kernel
theorem dX4_allKnowAll_18 : decode cX4_allKnowAll 18 = .ok (.iaload, 1) := by decide +kernel
theorem dX4_allKnowAll_19 : decode cX4_allKnowAll 19 = .ok (.aload_n 0, 1) := by decide +kernel
theorem dX4_allKnowAll_20 : decode cX4_allKnowAll 20 = .ok (.getfield 24, 3) := by decide +kernel
theorem dX4_allKnowAll_23 : decode cX4_allKnowAll 23 = .ok (.invokevirtual 41, 3) := by decide +kernel
theorem dX4_allKnowAll_26 : decode cX4_allKnowAll 26 = .ok (.invokestatic 70, 3) := by decide +kernel
theorem dX4_allKnowAll_29 : decode cX4_allKnowAll 29 = .ok (.if_icmp .eq 5, 3) := by decide +kernel
theorem dX4_allKnowAll_32 : decode cX4_allKnowAll 32 = .ok (.iconst 0, 1) := by decide +kernel
theorem dX4_allKnowAll_33 : decode cX4_allKnowAll 33 = .ok (.ireturn, 1) := by decide +kernel
theorem dX4_allKnowAll_34 : decode cX4_allKnowAll 34 = .ok (.iinc 1 1, 3) := by decide +kernel
theorem dX4_allKnowAll_37 : decode cX4_allKnowAll 37 = .ok (.goto (-35), 3) := by decide +kernel
theorem dX4_allKnowAll_40 : decode cX4_allKnowAll 40 = .ok (.iconst 1, 1) := by decide +kernel
theorem dX4_allKnowAll_41 : decode cX4_allKnowAll 41 = .ok (.ireturn, 1) := by decide +kernel
set_option maxRecDepth 20000 in
theorem ggX4_choice_X6_smallest : GoodIn wsX4_choice wsX6_smallest := goodIn_r _ [10, 11, 12, 9, 13] (by decide +kernel) (by decide +kernel)
set_option maxRecDepth 20000 in
theorem gX4_choice_X6_smallest : GoodIn wsX4_choice (va_wsS RX4 73 yX6_smallest wsX6_smallest) := goodIn_app (goodIn_of _ (by decide +kernel)) ggX4_choice_X6_smallest
set_option maxRecDepth 20000 in
theorem ggX4_choice_X7_nodes : GoodIn wsX4_choice wsX7_nodes := goodIn_r _ [18, 19, 28, 29, 30, 31] (by decide +kernel) (by decide +kernel)
set_option maxRecDepth 20000 in
theorem gX4_choice_X7_nodes : GoodIn wsX4_choice (wsV RX4 41 RX7 yX7_nodes wsX7_nodes) := goodIn_app (goodIn_of _ (by decide +kernel)) ggX4_choice_X7_nodes
set_option maxRecDepth 20000 in
theorem ggX4_choice_X6_has : GoodIn wsX4_choice wsX6_has := goodIn_r _ [13] (by decide +kernel) (by decide +kernel)
set_option maxRecDepth 20000 in
theorem gX4_choice_X6_has : GoodIn wsX4_choice (va_wsS RX4 76 yX6_has wsX6_has) := goodIn_app (goodIn_of _ (by decide +kernel)) ggX4_choice_X6_has
theorem dX4_choice_0 : decode cX4_choice 0 = .ok (.aload_n 0, 1) := by decide +kernel
theorem dX4_choice_1 : decode cX4_choice 1 = .ok (.getfield 28, 3) := by decide +kernel
theorem dX4_choice_4 : decode cX4_choice 4 = .ok (.ifCond .ne 37, 3) := by decide +kernel
theorem dX4_choice_7 : decode cX4_choice 7 = .ok (.aload_n 0, 1) := by decide +kernel
theorem dX4_choice_8 : decode cX4_choice 8 = .ok (.getfield 9, 3) := by decide +kernel
theorem dX4_choice_11 : decode cX4_choice 11 = .ok (.iload_n 1, 1) := by decide +kernel
theorem dX4_choice_12 : decode cX4_choice 12 = .ok (.iaload, 1) := by decide +kernel
theorem dX4_choice_13 : decode cX4_choice 13 = .ok (.aload_n 0, 1) := by decide +kernel
theorem dX4_choice_14 : decode cX4_choice 14 = .ok (.getfield 15, 3) := by decide +kernel
theorem dX4_choice_17 : decode cX4_choice 17 = .ok (.iload_n 1, 1) := by decide +kernel
theorem dX4_choice_18 : decode cX4_choice 18 = .ok (.iaload, 1) := by decide +kernel
theorem dX4_choice_19 : decode cX4_choice 19 = .ok (.iconst (-1), 1) := by decide +kernel
theorem dX4_choice_20 : decode cX4_choice 20 = .ok (.ixor, 1) := by decide +kernel
theorem dX4_choice_21 : decode cX4_choice 21 = .ok (.iand, 1) := by decide +kernel
theorem dX4_choice_22 : decode cX4_choice 22 = .ok (.istore_n 2, 1) := by decide +kernel
theorem dX4_choice_23 : decode cX4_choice 23 = .ok (.iload_n 2, 1) := by decide +kernel
theorem dX4_choice_24 : decode cX4_choice 24 = .ok (.ifCond .eq 7, 3) := by decide +kernel
theorem dX4_choice_27 : decode cX4_choice 27 = .ok (.iload_n 2, 1) := by decide +kernel
theorem dX4_choice_28 : decode cX4_choice 28 = .ok (.goto 9, 3) := by decide +kernel
theorem dX4_choice_31 : decode cX4_choice 31 = .ok (.aload_n 0, 1) := by decide +kernel
theorem dX4_choice_32 : decode cX4_choice 32 = .ok (.getfield 9, 3) := by decide +kernel
theorem dX4_choice_35 : decode cX4_choice 35 = .ok (.iload_n 1, 1) := by decide +kernel
theorem dX4_choice_36 : decode cX4_choice 36 = .ok (.iaload, 1) := by decide +kernel
theorem dX4_choice_37 : decode cX4_choice 37 = .ok (.invokestatic 73, 3) := by decide +kernel
theorem dX4_choice_40 : decode cX4_choice 40 = .ok (.ireturn, 1) := by decide +kernel
theorem dX4_choice_41 : decode cX4_choice 41 = .ok (.aload_n 0, 1) := by decide +kernel
theorem dX4_choice_42 : decode cX4_choice 42 = .ok (.getfield 28, 3) := by decide +kernel
theorem dX4_choice_45 : decode cX4_choice 45 = .ok (.iconst 1, 1) := by decide +kernel
theorem dX4_choice_46 : decode cX4_choice 46 = .ok (.if_icmp .ne 10, 3) := by decide +kernel
theorem dX4_choice_49 : decode cX4_choice 49 = .ok (.aload_n 0, 1) := by decide +kernel
theorem dX4_choice_50 : decode cX4_choice 50 = .ok (.getfield 18, 3) := by decide +kernel
theorem dX4_choice_53 : decode cX4_choice 53 = .ok (.iload_n 1, 1) := by decide +kernel
theorem dX4_choice_54 : decode cX4_choice 54 = .ok (.iaload, 1) := by decide +kernel
theorem dX4_choice_55 : decode cX4_choice 55 = .ok (.ireturn, 1) := by decide +kernel
theorem dX4_choice_56 : decode cX4_choice 56 = .ok (.aload_n 0, 1) := by decide +kernel
theorem dX4_choice_57 : decode cX4_choice 57 = .ok (.getfield 24, 3) := by decide +kernel
theorem dX4_choice_60 : decode cX4_choice 60 = .ok (.invokevirtual 41, 3) := by decide +kernel
theorem dX4_choice_63 : decode cX4_choice 63 = .ok (.ifCond .le 18, 3) := by decide +kernel
theorem dX4_choice_66 : decode cX4_choice 66 = .ok (.aload_n 0, 1) := by decide +kernel
theorem dX4_choice_67 : decode cX4_choice 67 = .ok (.getfield 32, 3) := by decide +kernel
theorem dX4_choice_70 : decode cX4_choice 70 = .ok (.aload_n 0, 1) := by decide +kernel
theorem dX4_choice_71 : decode cX4_choice 71 = .ok (.getfield 24, 3) := by decide +kernel
theorem dX4_choice_74 : decode cX4_choice 74 = .ok (.invokevirtual 41, 3) := by decide +kernel
theorem dX4_choice_77 : decode cX4_choice 77 = .ok (.irem, 1) := by decide +kernel
theorem dX4_choice_78 : decode cX4_choice 78 = .ok (.goto 4, 3) := by decide +kernel
theorem dX4_choice_81 : decode cX4_choice 81 = .ok (.iload_n 1, 1) := by decide +kernel
theorem dX4_choice_82 : decode cX4_choice 82 = .ok (.istore_n 2, 1) := by decide +kernel
theorem dX4_choice_83 : decode cX4_choice 83 = .ok (.aload_n 0, 1) := by decide +kernel
theorem dX4_choice_84 : decode cX4_choice 84 = .ok (.getfield 9, 3) := by decide +kernel
theorem dX4_choice_87 : decode cX4_choice 87 = .ok (.iload_n 1, 1) := by decide +kernel
theorem dX4_choice_88 : decode cX4_choice 88 = .ok (.iaload, 1) := by decide +kernel
theorem dX4_choice_89 : decode cX4_choice 89 = .ok (.iload_n 2, 1) := by decide +kernel
theorem dX4_choice_90 : decode cX4_choice 90 = .ok (.invokestatic 76, 3) := by decide +kernel
theorem dX4_choice_93 : decode cX4_choice 93 = .ok (.ifCond .eq 7, 3) := by decide +kernel
theorem dX4_choice_96 : decode cX4_choice 96 = .ok (.iload_n 2, 1) := by decide +kernel
theorem dX4_choice_97 : decode cX4_choice 97 = .ok (.goto 4, 3) := by decide +kernel
theorem dX4_choice_100 : decode cX4_choice 100 = .ok (.iload_n 1, 1) := by decide +kernel
theorem dX4_choice_101 : decode cX4_choice 101 = .ok (.ireturn, 1) := by decide +kernel
set_option maxRecDepth 20000 in
theorem ggX4_tokensSentBy_X7_nodes : GoodIn wsX4_tokensSentBy wsX7_nodes := goodIn_r _ [7, 8, 23, 24, 25, 26] (by decide +kernel) (by decide +kernel)
set_option maxRecDepth 20000 in
theorem gX4_tokensSentBy_X7_nodes : GoodIn wsX4_tokensSentBy (wsV RX4 41 RX7 yX7_nodes wsX7_nodes) := goodIn_app (goodIn_of _ (by decide +kernel)) ggX4_tokensSentBy_X7_nodes
set_option maxRecDepth 20000 in
theorem ggX4_tokensSentBy_X6_has : GoodIn wsX4_tokensSentBy wsX6_has := goodIn_r _ [12] (by decide +kernel) (by decide +kernel)
set_option maxRecDepth 20000 in
theorem gX4_tokensSentBy_X6_has : GoodIn wsX4_tokensSentBy (va_wsS RX4 76 yX6_has wsX6_has) := goodIn_app (goodIn_of _ (by decide +kernel)) ggX4_tokensSentBy_X6_has
set_option maxRecDepth 20000 in
theorem ggX4_tokensSentBy_X6_of : GoodIn wsX4_tokensSentBy wsX6_of := goodIn_r _ [15] (by decide +kernel) (by decide +kernel)
set_option maxRecDepth 20000 in
theorem gX4_tokensSentBy_X6_of : GoodIn wsX4_tokensSentBy (va_wsS RX4 35 yX6_of wsX6_of) := goodIn_app (goodIn_of _ (by decide +kernel)) ggX4_tokensSentBy_X6_of
theorem dX4_tokensSentBy_0 : decode cX4_tokensSentBy 0 = .ok (.iconst 0, 1) := by decide +kernel
theorem dX4_tokensSentBy_1 : decode cX4_tokensSentBy 1 = .ok (.istore_n 2, 1) := by decide +kernel
theorem dX4_tokensSentBy_2 : decode cX4_tokensSentBy 2 = .ok (.iconst 0, 1) := by decide +kernel
theorem dX4_tokensSentBy_3 : decode cX4_tokensSentBy 3 = .ok (.istore_n 3, 1) := by decide +kernel
theorem dX4_tokensSentBy_4 : decode cX4_tokensSentBy 4 = .ok (.iload_n 3, 1) := by decide +kernel
theorem dX4_tokensSentBy_5 : decode cX4_tokensSentBy 5 = .ok (.aload_n 0, 1) := by decide +kernel
theorem dX4_tokensSentBy_6 : decode cX4_tokensSentBy 6 = .ok (.getfield 24, 3) := by decide +kernel
theorem dX4_tokensSentBy_9 : decode cX4_tokensSentBy 9 = .ok (.invokevirtual 41, 3) := by decide +kernel
theorem dX4_tokensSentBy_12 : decode cX4_tokensSentBy 12 = .ok (.if_icmp .ge 29, 3) := by decide +kernel
theorem dX4_tokensSentBy_15 : decode cX4_tokensSentBy 15 = .ok (.iload_n 1, 1) := by decide +kernel
theorem dX4_tokensSentBy_16 : decode cX4_tokensSentBy 16 = .ok (.iload_n 3, 1) := by decide +kernel
theorem dX4_tokensSentBy_17 : decode cX4_tokensSentBy 17 = .ok (.invokestatic 76, 3) := by decide +kernel
theorem dX4_tokensSentBy_20 : decode cX4_tokensSentBy 20 = .ok (.ifCond .eq 15, 3) := by decide +kernel
theorem dX4_tokensSentBy_23 : decode cX4_tokensSentBy 23 = .ok (.iload_n 2, 1) := by decide +kernel
theorem dX4_tokensSentBy_24 : decode cX4_tokensSentBy 24 = .ok (.aload_n 0, 1) := by decide +kernel
theorem dX4_tokensSentBy_25 : decode cX4_tokensSentBy 25 = .ok (.getfield 21, 3) := by decide +kernel
theorem dX4_tokensSentBy_28 : decode cX4_tokensSentBy 28 = .ok (.iload_n 3, 1) := by decide +kernel
theorem dX4_tokensSentBy_29 : decode cX4_tokensSentBy 29 = .ok (.iaload, 1) := by decide +kernel
theorem dX4_tokensSentBy_30 : decode cX4_tokensSentBy 30 = .ok (.invokestatic 35, 3) := by decide +kernel
theorem dX4_tokensSentBy_33 : decode cX4_tokensSentBy 33 = .ok (.ior, 1) := by decide +kernel
theorem dX4_tokensSentBy_34 : decode cX4_tokensSentBy 34 = .ok (.istore_n 2, 1) := by decide +kernel
theorem dX4_tokensSentBy_35 : decode cX4_tokensSentBy 35 = .ok (.iinc 3 1, 3) := by decide +kernel
theorem dX4_tokensSentBy_38 : decode cX4_tokensSentBy 38 = .ok (.goto (-34), 3) := by decide +kernel
theorem dX4_tokensSentBy_41 : decode cX4_tokensSentBy 41 = .ok (.iload_n 2, 1) := by decide +kernel
theorem dX4_tokensSentBy_42 : decode cX4_tokensSentBy 42 = .ok (.ireturn, 1) := by decide +kernel
set_option maxRecDepth 20000 in
theorem ggX4_learn_X6_greatest : GoodIn wsX4_learn wsX6_greatest := goodIn_r _ [6, 7, 8, 5, 9] (by decide +kernel) (by decide +kernel)
set_option maxRecDepth 20000 in
theorem gX4_learn_X6_greatest : GoodIn wsX4_learn (va_wsS RX4 80 yX6_greatest wsX6_greatest) := goodIn_app (goodIn_of _ (by decide +kernel)) ggX4_learn_X6_greatest
theorem dX4_learn_0 : decode cX4_learn 0 = .ok (.iload_n 2, 1) := by decide +kernel
theorem dX4_learn_1 : decode cX4_learn 1 = .ok (.aload_n 0, 1) := by decide +kernel
theorem dX4_learn_2 : decode cX4_learn 2 = .ok (.getfield 9, 3) := by decide +kernel
theorem dX4_learn_5 : decode cX4_learn 5 = .ok (.iload_n 1, 1) := by decide +kernel
theorem dX4_learn_6 : decode cX4_learn 6 = .ok (.iaload, 1) := by decide +kernel
theorem dX4_learn_7 : decode cX4_learn 7 = .ok (.iconst (-1), 1) := by decide +kernel
theorem dX4_learn_8 : decode cX4_learn 8 = .ok (.ixor, 1) := by decide +kernel
theorem dX4_learn_9 : decode cX4_learn 9 = .ok (.iand, 1) := by decide +kernel
theorem dX4_learn_10 : decode cX4_learn 10 = .ok (.istore_n 3, 1) := by decide +kernel
theorem dX4_learn_11 : decode cX4_learn 11 = .ok (.iload_n 3, 1) := by decide +kernel
theorem dX4_learn_12 : decode cX4_learn 12 = .ok (.ifCond .eq 23, 3) := by decide +kernel
theorem dX4_learn_15 : decode cX4_learn 15 = .ok (.aload_n 0, 1) := by decide +kernel
theorem dX4_learn_16 : decode cX4_learn 16 = .ok (.getfield 9, 3) := by decide +kernel
theorem dX4_learn_19 : decode cX4_learn 19 = .ok (.iload_n 1, 1) := by decide +kernel
theorem dX4_learn_20 : decode cX4_learn 20 = .ok (.dup2, 1) := by decide +kernel
theorem dX4_learn_21 : decode cX4_learn 21 = .ok (.iaload, 1) := by decide +kernel
theorem dX4_learn_22 : decode cX4_learn 22 = .ok (.iload_n 3, 1) := by decide +kernel
theorem dX4_learn_23 : decode cX4_learn 23 = .ok (.ior, 1) := by decide +kernel
theorem dX4_learn_24 : decode cX4_learn 24 = .ok (.iastore, 1) := by decide +kernel
theorem dX4_learn_25 : decode cX4_learn 25 = .ok (.aload_n 0, 1) := by decide +kernel
theorem dX4_learn_26 : decode cX4_learn 26 = .ok (.getfield 18, 3) := by decide +kernel
theorem dX4_learn_29 : decode cX4_learn 29 = .ok (.iload_n 1, 1) := by decide +kernel
theorem dX4_learn_30 : decode cX4_learn 30 = .ok (.iload_n 3, 1) := by decide +kernel
theorem dX4_learn_31 : decode cX4_learn 31 = .ok (.invokestatic 80, 3) := by decide +kernel
theorem dX4_learn_34 : decode cX4_learn 34 = .ok (.iastore, 1) := by decide +kernel
theorem dX4_learn_35 : decode cX4_learn 35 = .ok (.return_, 1) := by decide +kernel
set_option maxRecDepth 20000 in
theorem ggX5_init_X7_init : GoodIn wsX5_init wsX7_init := goodIn_r _ [10, 11, 2, 3, 12, 13, 14, 15, 16, 17, 7, 18, 19, 20, 23, 24, 25, 26] (by decide +kernel) (by decide +kernel)
set_option maxRecDepth 20000 in
theorem gX5_init_X7_init : GoodIn wsX5_init (wsX7_init) := ggX5_init_X7_init
theorem dX5_init_0 : decode cX5_init 0 = .ok (.aload_n 0, 1) := by decide +kernel
theorem dX5_init_1 : decode cX5_init 1 = .ok (.invokespecial 3, 3) := by decide +kernel
theorem dX5_init_4 : decode cX5_init 4 = .ok (.aload_n 0, 1) := by decide +kernel
theorem dX5_init_5 : decode cX5_init 5 = .ok (.bipush 6, 2) := by decide +kernel
theorem dX5_init_7 : decode cX5_init 7 = .ok (.anewarray 9, 3) := by decide +kernel
theorem dX5_init_10 : decode cX5_init 10 = .ok (.putfield 11, 3) := by decide +kernel
theorem dX5_init_13 : decode cX5_init 13 = .ok (.iconst 0, 1) := by decide +kernel
theorem dX5_init_14 : decode cX5_init 14 = .ok (.istore_n 1, 1) := by decide +kernel
theorem dX5_init_15 : decode cX5_init 15 = .ok (.iload_n 1, 1) := by decide +kernel
theorem dX5_init_16 : decode cX5_init 16 = .ok (.bipush 6, 2) := by decide +kernel
