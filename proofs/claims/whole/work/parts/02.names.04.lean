set_option maxRecDepth 20000 in
theorem gX9_wrongCounts_X1_wrongAnswers : GoodIn wsX9_wrongCounts (wsV RX9 233 RX1 yX1_wrongAnswers wsX1_wrongAnswers) := goodIn_app (goodIn_of _ (by decide +kernel)) ggX9_wrongCounts_X1_wrongAnswers
theorem dX9_wrongCounts_0 : decode cX9_wrongCounts 0 = .ok (.aload_n 0, 1) := by decide +kernel
theorem dX9_wrongCounts_1 : decode cX9_wrongCounts 1 = .ok (.getfield 54, 3) := by decide +kernel
theorem dX9_wrongCounts_4 : decode cX9_wrongCounts 4 = .ok (.invokevirtual 224, 3) := by decide +kernel
theorem dX9_wrongCounts_7 : decode cX9_wrongCounts 7 = .ok (.aload_n 0, 1) := by decide +kernel
theorem dX9_wrongCounts_8 : decode cX9_wrongCounts 8 = .ok (.getfield 54, 3) := by decide +kernel
theorem dX9_wrongCounts_11 : decode cX9_wrongCounts 11 = .ok (.invokevirtual 233, 3) := by decide +kernel
theorem dX9_wrongCounts_14 : decode cX9_wrongCounts 14 = .ok (.ireturn, 1) := by decide +kernel
set_option maxRecDepth 20000 in
theorem ggX9_undo_X5_size : GoodIn wsX9_undo wsX5_size := goodIn_r _ [7, 8, 30, 31] (by decide +kernel) (by decide +kernel)
set_option maxRecDepth 20000 in
theorem gX9_undo_X5_size : GoodIn wsX9_undo (wsV RX9 149 RX5 yX5_size wsX5_size) := goodIn_app (goodIn_of _ (by decide +kernel)) ggX9_undo_X5_size
set_option maxRecDepth 20000 in
theorem ggX9_undo_X5_restore : GoodIn wsX9_undo wsX5_restore := goodIn_r _ [12, 8, 13, 14, 15, 16, 17, 18, 19, 20, 21, 22, 30, 31, 32, 33, 34, 35] (by decide +kernel) (by decide +kernel)
set_option maxRecDepth 20000 in
theorem gX9_undo_X5_restore : GoodIn wsX9_undo (wsV RX9 236 RX5 yX5_restore wsX5_restore) := goodIn_app (goodIn_of _ (by decide +kernel)) ggX9_undo_X5_restore
theorem dX9_undo_0 : decode cX9_undo 0 = .ok (.aload_n 0, 1) := by decide +kernel
theorem dX9_undo_1 : decode cX9_undo 1 = .ok (.getfield 22, 3) := by decide +kernel
theorem dX9_undo_4 : decode cX9_undo 4 = .ok (.invokevirtual 149, 3) := by decide +kernel
theorem dX9_undo_7 : decode cX9_undo 7 = .ok (.ifCond .ne 6, 3) := by decide +kernel
theorem dX9_undo_10 : decode cX9_undo 10 = .ok (.bipush (-2), 2) := by decide +kernel
theorem dX9_undo_12 : decode cX9_undo 12 = .ok (.ireturn, 1) := by decide +kernel
theorem dX9_undo_13 : decode cX9_undo 13 = .ok (.aload_n 0, 1) := by decide +kernel
theorem dX9_undo_14 : decode cX9_undo 14 = .ok (.getfield 22, 3) := by decide +kernel
theorem dX9_undo_17 : decode cX9_undo 17 = .ok (.aload_n 0, 1) := by decide +kernel
theorem dX9_undo_18 : decode cX9_undo 18 = .ok (.getfield 10, 3) := by decide +kernel
theorem dX9_undo_21 : decode cX9_undo 21 = .ok (.invokevirtual 236, 3) := by decide +kernel
theorem dX9_undo_24 : decode cX9_undo 24 = .ok (.aload_n 0, 1) := by decide +kernel
theorem dX9_undo_25 : decode cX9_undo 25 = .ok (.getfield 22, 3) := by decide +kernel
theorem dX9_undo_28 : decode cX9_undo 28 = .ok (.invokevirtual 149, 3) := by decide +kernel
theorem dX9_undo_31 : decode cX9_undo 31 = .ok (.ireturn, 1) := by decide +kernel
set_option maxRecDepth 20000 in
theorem ggX9_allDecideTheSame_X3_tokensOf : GoodIn wsX9_allDecideTheSame wsX3_tokensOf := goodIn_r _ [7, 8, 9, 10, 11, 12, 13, 14, 15, 40, 41, 42, 43, 44, 45, 46, 47] (by decide +kernel) (by decide +kernel)
set_option maxRecDepth 20000 in
theorem gX9_allDecideTheSame_X3_tokensOf : GoodIn wsX9_allDecideTheSame (wsV RX9 186 RX3 yX3_tokensOf wsX3_tokensOf) := goodIn_app (goodIn_of _ (by decide +kernel)) ggX9_allDecideTheSame_X3_tokensOf
set_option maxRecDepth 20000 in
theorem ggX9_allDecideTheSame_X7_smallestValue : GoodIn wsX9_allDecideTheSame wsX7_smallestValue := goodIn_r _ [19, 15, 20, 21, 22, 23, 24, 25, 26, 27, 28, 44, 45, 46, 47] (by decide +kernel) (by decide +kernel)
set_option maxRecDepth 20000 in
theorem gX9_allDecideTheSame_X7_smallestValue : GoodIn wsX9_allDecideTheSame (wsV RX9 218 RX7 yX7_smallestValue wsX7_smallestValue) := goodIn_app (goodIn_of _ (by decide +kernel)) ggX9_allDecideTheSame_X7_smallestValue
set_option maxRecDepth 20000 in
theorem ggX9_allDecideTheSame_X7_nodes : GoodIn wsX9_allDecideTheSame wsX7_nodes := goodIn_r _ [32, 15, 44, 45, 46, 47] (by decide +kernel) (by decide +kernel)
set_option maxRecDepth 20000 in
theorem gX9_allDecideTheSame_X7_nodes : GoodIn wsX9_allDecideTheSame (wsV RX9 58 RX7 yX7_nodes wsX7_nodes) := goodIn_app (goodIn_of _ (by decide +kernel)) ggX9_allDecideTheSame_X7_nodes
theorem dX9_allDecideTheSame_0 : decode cX9_allDecideTheSame 0 = .ok (.aload_n 0, 1) := by decide +kernel
theorem dX9_allDecideTheSame_1 : decode cX9_allDecideTheSame 1 = .ok (.getfield 10, 3) := by decide +kernel
theorem dX9_allDecideTheSame_4 : decode cX9_allDecideTheSame 4 = .ok (.aload_n 0, 1) := by decide +kernel
theorem dX9_allDecideTheSame_5 : decode cX9_allDecideTheSame 5 = .ok (.getfield 38, 3) := by decide +kernel
theorem dX9_allDecideTheSame_8 : decode cX9_allDecideTheSame 8 = .ok (.iconst 0, 1) := by decide +kernel
theorem dX9_allDecideTheSame_9 : decode cX9_allDecideTheSame 9 = .ok (.invokevirtual 186, 3) := by decide +kernel
theorem dX9_allDecideTheSame_12 : decode cX9_allDecideTheSame 12 = .ok (.invokevirtual 218, 3) := by decide +kernel
theorem dX9_allDecideTheSame_15 : decode cX9_allDecideTheSame 15 = .ok (.istore_n 1, 1) := by decide +kernel
theorem dX9_allDecideTheSame_16 : decode cX9_allDecideTheSame 16 = .ok (.iconst 1, 1) := by decide +kernel
theorem dX9_allDecideTheSame_17 : decode cX9_allDecideTheSame 17 = .ok (.istore_n 2, 1) := by decide +kernel
theorem dX9_allDecideTheSame_18 : decode cX9_allDecideTheSame 18 = .ok (.iload_n 2, 1) := by decide +kernel
theorem dX9_allDecideTheSame_19 : decode cX9_allDecideTheSame 19 = .ok (.aload_n 0, 1) := by decide +kernel
theorem dX9_allDecideTheSame_20 : decode cX9_allDecideTheSame 20 = .ok (.getfield 10, 3) := by decide +kernel
theorem dX9_allDecideTheSame_23 : decode cX9_allDecideTheSame 23 = .ok (.invokevirtual 58, 3) := by decide +kernel
theorem dX9_allDecideTheSame_26 : decode cX9_allDecideTheSame 26 = .ok (.if_icmp .ge 30, 3) := by decide +kernel
theorem dX9_allDecideTheSame_29 : decode cX9_allDecideTheSame 29 = .ok (.aload_n 0, 1) := by decide +kernel
theorem dX9_allDecideTheSame_30 : decode cX9_allDecideTheSame 30 = .ok (.getfield 10, 3) := by decide +kernel
theorem dX9_allDecideTheSame_33 : decode cX9_allDecideTheSame 33 = .ok (.aload_n 0, 1) := by decide +kernel
theorem dX9_allDecideTheSame_34 : decode cX9_allDecideTheSame 34 = .ok (.getfield 38, 3) := by decide +kernel
theorem dX9_allDecideTheSame_37 : decode cX9_allDecideTheSame 37 = .ok (.iload_n 2, 1) := by decide +kernel
theorem dX9_allDecideTheSame_38 : decode cX9_allDecideTheSame 38 = .ok (.invokevirtual 186, 3) := by decide +kernel
theorem dX9_allDecideTheSame_41 : decode cX9_allDecideTheSame 41 = .ok (.invokevirtual 218, 3) := by decide +kernel
theorem dX9_allDecideTheSame_44 : decode cX9_allDecideTheSame 44 = .ok (.iload_n 1, 1) := by decide +kernel
theorem dX9_allDecideTheSame_45 : decode cX9_allDecideTheSame 45 = .ok (.if_icmp .eq 5, 3) := by decide +kernel
theorem dX9_allDecideTheSame_48 : decode cX9_allDecideTheSame 48 = .ok (.iconst 0, 1) := by decide +kernel
theorem dX9_allDecideTheSame_49 : decode cX9_allDecideTheSame 49 = .ok (.ireturn, 1) := by decide +kernel
theorem dX9_allDecideTheSame_50 : decode cX9_allDecideTheSame 50 = .ok (.iinc 2 1, 3) := by decide +kernel
theorem dX9_allDecideTheSame_53 : decode cX9_allDecideTheSame 53 = .ok (.goto (-35), 3) := by decide +kernel
theorem dX9_allDecideTheSame_56 : decode cX9_allDecideTheSame 56 = .ok (.iconst 1, 1) := by decide +kernel
theorem dX9_allDecideTheSame_57 : decode cX9_allDecideTheSame 57 = .ok (.ireturn, 1) := by decide +kernel
theorem dX9_isStep_0 : decode cX9_isStep 0 = .ok (.iload_n 0, 1) := by decide +kernel
theorem dX9_isStep_1 : decode cX9_isStep 1 = .ok (.ifCond .lt 13, 3) := by decide +kernel
theorem dX9_isStep_4 : decode cX9_isStep 4 = .ok (.iload_n 0, 1) := by decide +kernel
theorem dX9_isStep_5 : decode cX9_isStep 5 = .ok (.bipush 99, 2) := by decide +kernel
theorem dX9_isStep_7 : decode cX9_isStep 7 = .ok (.if_icmp .gt 7, 3) := by decide +kernel
theorem dX9_isStep_10 : decode cX9_isStep 10 = .ok (.iconst 1, 1) := by decide +kernel
theorem dX9_isStep_11 : decode cX9_isStep 11 = .ok (.goto 4, 3) := by decide +kernel
theorem dX9_isStep_14 : decode cX9_isStep 14 = .ok (.iconst 0, 1) := by decide +kernel
theorem dX9_isStep_15 : decode cX9_isStep 15 = .ok (.ireturn, 1) := by decide +kernel
theorem dX9_isRule_0 : decode cX9_isRule 0 = .ok (.iload_n 0, 1) := by decide +kernel
theorem dX9_isRule_1 : decode cX9_isRule 1 = .ok (.ifCond .lt 12, 3) := by decide +kernel
theorem dX9_isRule_4 : decode cX9_isRule 4 = .ok (.iload_n 0, 1) := by decide +kernel
theorem dX9_isRule_5 : decode cX9_isRule 5 = .ok (.iconst 2, 1) := by decide +kernel
theorem dX9_isRule_6 : decode cX9_isRule 6 = .ok (.if_icmp .gt 7, 3) := by decide +kernel
theorem dX9_isRule_9 : decode cX9_isRule 9 = .ok (.iconst 1, 1) := by decide +kernel
theorem dX9_isRule_10 : decode cX9_isRule 10 = .ok (.goto 4, 3) := by decide +kernel
theorem dX9_isRule_13 : decode cX9_isRule 13 = .ok (.iconst 0, 1) := by decide +kernel
theorem dX9_isRule_14 : decode cX9_isRule 14 = .ok (.ireturn, 1) := by decide +kernel
theorem dX9_oneIf_0 : decode cX9_oneIf 0 = .ok (.iload_n 0, 1) := by decide +kernel
theorem dX9_oneIf_1 : decode cX9_oneIf 1 = .ok (.ifCond .eq 7, 3) := by decide +kernel
theorem dX9_oneIf_4 : decode cX9_oneIf 4 = .ok (.iconst 1, 1) := by decide +kernel
theorem dX9_oneIf_5 : decode cX9_oneIf 5 = .ok (.goto 4, 3) := by decide +kernel
theorem dX9_oneIf_8 : decode cX9_oneIf 8 = .ok (.iconst 0, 1) := by decide +kernel
theorem dX9_oneIf_9 : decode cX9_oneIf 9 = .ok (.ireturn, 1) := by decide +kernel
set_option maxRecDepth 20000 in
theorem ggX10_init_X10_begins : GoodIn wsX10_init wsX10_begins := goodIn_r _ [20, 5, 21, 22, 23, 24, 25, 26, 27, 28, 29, 30, 31, 32, 33, 34, 35, 36, 37, 38, 39] (by decide +kernel) (by decide +kernel)
set_option maxRecDepth 20000 in
theorem gX10_init_X10_begins : GoodIn wsX10_init (wsV RX10 43 RX10 yX10_begins wsX10_begins) := goodIn_app (goodIn_of _ (by decide +kernel)) ggX10_init_X10_begins
theorem dX10_init_0 : decode cX10_init 0 = .ok (.aload_n 0, 1) := by decide +kernel
theorem dX10_init_1 : decode cX10_init 1 = .ok (.invokespecial 1, 3) := by decide +kernel
theorem dX10_init_4 : decode cX10_init 4 = .ok (.aload_n 0, 1) := by decide +kernel
theorem dX10_init_5 : decode cX10_init 5 = .ok (.bipush 26, 2) := by decide +kernel
theorem dX10_init_7 : decode cX10_init 7 = .ok (.newarray .int, 2) := by decide +kernel
theorem dX10_init_9 : decode cX10_init 9 = .ok (.putfield 7, 3) := by decide +kernel
theorem dX10_init_12 : decode cX10_init 12 = .ok (.aload_n 0, 1) := by decide +kernel
theorem dX10_init_13 : decode cX10_init 13 = .ok (.sipush 156, 3) := by decide +kernel
theorem dX10_init_16 : decode cX10_init 16 = .ok (.newarray .int, 2) := by decide +kernel
theorem dX10_init_18 : decode cX10_init 18 = .ok (.putfield 13, 3) := by decide +kernel
theorem dX10_init_21 : decode cX10_init 21 = .ok (.aload_n 0, 1) := by decide +kernel
theorem dX10_init_22 : decode cX10_init 22 = .ok (.bipush 26, 2) := by decide +kernel
theorem dX10_init_24 : decode cX10_init 24 = .ok (.newarray .int, 2) := by decide +kernel
theorem dX10_init_26 : decode cX10_init 26 = .ok (.putfield 16, 3) := by decide +kernel
theorem dX10_init_29 : decode cX10_init 29 = .ok (.aload_n 0, 1) := by decide +kernel
theorem dX10_init_30 : decode cX10_init 30 = .ok (.bipush 120, 2) := by decide +kernel
theorem dX10_init_32 : decode cX10_init 32 = .ok (.newarray .int, 2) := by decide +kernel
theorem dX10_init_34 : decode cX10_init 34 = .ok (.putfield 19, 3) := by decide +kernel
theorem dX10_init_37 : decode cX10_init 37 = .ok (.aload_n 0, 1) := by decide +kernel
theorem dX10_init_38 : decode cX10_init 38 = .ok (.bipush 8, 2) := by decide +kernel
theorem dX10_init_40 : decode cX10_init 40 = .ok (.newarray .int, 2) := by decide +kernel
theorem dX10_init_42 : decode cX10_init 42 = .ok (.putfield 22, 3) := by decide +kernel
theorem dX10_init_45 : decode cX10_init 45 = .ok (.aload_n 0, 1) := by decide +kernel
theorem dX10_init_46 : decode cX10_init 46 = .ok (.bipush 8, 2) := by decide +kernel
theorem dX10_init_48 : decode cX10_init 48 = .ok (.newarray .int, 2) := by decide +kernel
theorem dX10_init_50 : decode cX10_init 50 = .ok (.putfield 25, 3) := by decide +kernel
theorem dX10_init_53 : decode cX10_init 53 = .ok (.aload_n 0, 1) := by decide +kernel
theorem dX10_init_54 : decode cX10_init 54 = .ok (.bipush 64, 2) := by decide +kernel
theorem dX10_init_56 : decode cX10_init 56 = .ok (.newarray .int, 2) := by decide +kernel
theorem dX10_init_58 : decode cX10_init 58 = .ok (.putfield 28, 3) := by decide +kernel
theorem dX10_init_61 : decode cX10_init 61 = .ok (.aload_n 0, 1) := by decide +kernel
theorem dX10_init_62 : decode cX10_init 62 = .ok (.bipush 8, 2) := by decide +kernel
theorem dX10_init_64 : decode cX10_init 64 = .ok (.newarray .int, 2) := by decide +kernel
theorem dX10_init_66 : decode cX10_init 66 = .ok (.putfield 31, 3) := by decide +kernel
theorem dX10_init_69 : decode cX10_init 69 = .ok (.aload_n 0, 1) := by decide +kernel
theorem dX10_init_70 : decode cX10_init 70 = .ok (.bipush 64, 2) := by decide +kernel
theorem dX10_init_72 : decode cX10_init 72 = .ok (.newarray .int, 2) := by decide +kernel
theorem dX10_init_74 : decode cX10_init 74 = .ok (.putfield 34, 3) := by decide +kernel
theorem dX10_init_77 : decode cX10_init 77 = .ok (.aload_n 0, 1) := by decide +kernel
theorem dX10_init_78 : decode cX10_init 78 = .ok (.bipush 8, 2) := by decide +kernel
theorem dX10_init_80 : decode cX10_init 80 = .ok (.newarray .int, 2) := by decide +kernel
theorem dX10_init_82 : decode cX10_init 82 = .ok (.putfield 37, 3) := by decide +kernel
theorem dX10_init_85 : decode cX10_init 85 = .ok (.aload_n 0, 1) := by decide +kernel
theorem dX10_init_86 : decode cX10_init 86 = .ok (.bipush 8, 2) := by decide +kernel
theorem dX10_init_88 : decode cX10_init 88 = .ok (.newarray .int, 2) := by decide +kernel
theorem dX10_init_90 : decode cX10_init 90 = .ok (.putfield 40, 3) := by decide +kernel
theorem dX10_init_93 : decode cX10_init 93 = .ok (.aload_n 0, 1) := by decide +kernel
theorem dX10_init_94 : decode cX10_init 94 = .ok (.iconst 4, 1) := by decide +kernel
theorem dX10_init_95 : decode cX10_init 95 = .ok (.invokevirtual 43, 3) := by decide +kernel
theorem dX10_init_98 : decode cX10_init 98 = .ok (.return_, 1) := by decide +kernel
theorem dX10_in_0 : decode cX10_in 0 = .ok (.iload_n 0, 1) := by decide +kernel
theorem dX10_in_1 : decode cX10_in 1 = .ok (.iload_n 1, 1) := by decide +kernel
theorem dX10_in_2 : decode cX10_in 2 = .ok (.if_icmp .lt 12, 3) := by decide +kernel
theorem dX10_in_5 : decode cX10_in 5 = .ok (.iload_n 0, 1) := by decide +kernel
theorem dX10_in_6 : decode cX10_in 6 = .ok (.iload_n 2, 1) := by decide +kernel
theorem dX10_in_7 : decode cX10_in 7 = .ok (.if_icmp .gt 7, 3) := by decide +kernel
theorem dX10_in_10 : decode cX10_in 10 = .ok (.iconst 1, 1) := by decide +kernel
theorem dX10_in_11 : decode cX10_in 11 = .ok (.goto 4, 3) := by decide +kernel
theorem dX10_in_14 : decode cX10_in 14 = .ok (.iconst 0, 1) := by decide +kernel
theorem dX10_in_15 : decode cX10_in 15 = .ok (.ireturn, 1) := by decide +kernel
theorem dX10_begins_0 : decode cX10_begins 0 = .ok (.aload_n 0, 1) := by decide +kernel
theorem dX10_begins_1 : decode cX10_begins 1 = .ok (.getfield 7, 3) := by decide +kernel
theorem dX10_begins_4 : decode cX10_begins 4 = .ok (.iconst 0, 1) := by decide +kernel
theorem dX10_begins_5 : decode cX10_begins 5 = .ok (.iload_n 1, 1) := by decide +kernel
theorem dX10_begins_6 : decode cX10_begins 6 = .ok (.iastore, 1) := by decide +kernel
theorem dX10_begins_7 : decode cX10_begins 7 = .ok (.aload_n 0, 1) := by decide +kernel
theorem dX10_begins_8 : decode cX10_begins 8 = .ok (.getfield 7, 3) := by decide +kernel
theorem dX10_begins_11 : decode cX10_begins 11 = .ok (.iconst 1, 1) := by decide +kernel
theorem dX10_begins_12 : decode cX10_begins 12 = .ok (.iconst 0, 1) := by decide +kernel
theorem dX10_begins_13 : decode cX10_begins 13 = .ok (.iastore, 1) := by decide +kernel
theorem dX10_begins_14 : decode cX10_begins 14 = .ok (.iconst 0, 1) := by decide +kernel
theorem dX10_begins_15 : decode cX10_begins 15 = .ok (.istore_n 2, 1) := by decide +kernel
theorem dX10_begins_16 : decode cX10_begins 16 = .ok (.iload_n 2, 1) := by decide +kernel
theorem dX10_begins_17 : decode cX10_begins 17 = .ok (.bipush 8, 2) := by decide +kernel
theorem dX10_begins_19 : decode cX10_begins 19 = .ok (.if_icmp .ge 19, 3) := by decide +kernel
theorem dX10_begins_22 : decode cX10_begins 22 = .ok (.aload_n 0, 1) := by decide +kernel
theorem dX10_begins_23 : decode cX10_begins 23 = .ok (.getfield 7, 3) := by decide +kernel
theorem dX10_begins_26 : decode cX10_begins 26 = .ok (.bipush 18, 2) := by decide +kernel
theorem dX10_begins_28 : decode cX10_begins 28 = .ok (.iload_n 2, 1) := by decide +kernel
theorem dX10_begins_29 : decode cX10_begins 29 = .ok (.iadd, 1) := by decide +kernel
theorem dX10_begins_30 : decode cX10_begins 30 = .ok (.iload_n 2, 1) := by decide +kernel
theorem dX10_begins_31 : decode cX10_begins 31 = .ok (.iastore, 1) := by decide +kernel
theorem dX10_begins_32 : decode cX10_begins 32 = .ok (.iinc 2 1, 3) := by decide +kernel
theorem dX10_begins_35 : decode cX10_begins 35 = .ok (.goto (-19), 3) := by decide +kernel
theorem dX10_begins_38 : decode cX10_begins 38 = .ok (.return_, 1) := by decide +kernel
theorem dX10_hold_0 : decode cX10_hold 0 = .ok (.iconst 0, 1) := by decide +kernel
theorem dX10_hold_1 : decode cX10_hold 1 = .ok (.istore_n 1, 1) := by decide +kernel
theorem dX10_hold_2 : decode cX10_hold 2 = .ok (.iload_n 1, 1) := by decide +kernel
theorem dX10_hold_3 : decode cX10_hold 3 = .ok (.bipush 26, 2) := by decide +kernel
theorem dX10_hold_5 : decode cX10_hold 5 = .ok (.if_icmp .ge 21, 3) := by decide +kernel
theorem dX10_hold_8 : decode cX10_hold 8 = .ok (.aload_n 0, 1) := by decide +kernel
theorem dX10_hold_9 : decode cX10_hold 9 = .ok (.getfield 16, 3) := by decide +kernel
theorem dX10_hold_12 : decode cX10_hold 12 = .ok (.iload_n 1, 1) := by decide +kernel
theorem dX10_hold_13 : decode cX10_hold 13 = .ok (.aload_n 0, 1) := by decide +kernel
theorem dX10_hold_14 : decode cX10_hold 14 = .ok (.getfield 7, 3) := by decide +kernel
theorem dX10_hold_17 : decode cX10_hold 17 = .ok (.iload_n 1, 1) := by decide +kernel
theorem dX10_hold_18 : decode cX10_hold 18 = .ok (.iaload, 1) := by decide +kernel
theorem dX10_hold_19 : decode cX10_hold 19 = .ok (.iastore, 1) := by decide +kernel
theorem dX10_hold_20 : decode cX10_hold 20 = .ok (.iinc 1 1, 3) := by decide +kernel
theorem dX10_hold_23 : decode cX10_hold 23 = .ok (.goto (-21), 3) := by decide +kernel
theorem dX10_hold_26 : decode cX10_hold 26 = .ok (.return_, 1) := by decide +kernel
theorem dX10_restore_0 : decode cX10_restore 0 = .ok (.iconst 0, 1) := by decide +kernel
theorem dX10_restore_1 : decode cX10_restore 1 = .ok (.istore_n 1, 1) := by decide +kernel
theorem dX10_restore_2 : decode cX10_restore 2 = .ok (.iload_n 1, 1) := by decide +kernel
theorem dX10_restore_3 : decode cX10_restore 3 = .ok (.bipush 26, 2) := by decide +kernel
theorem dX10_restore_5 : decode cX10_restore 5 = .ok (.if_icmp .ge 21, 3) := by decide +kernel
theorem dX10_restore_8 : decode cX10_restore 8 = .ok (.aload_n 0, 1) := by decide +kernel
theorem dX10_restore_9 : decode cX10_restore 9 = .ok (.getfield 7, 3) := by decide +kernel
theorem dX10_restore_12 : decode cX10_restore 12 = .ok (.iload_n 1, 1) := by decide +kernel
theorem dX10_restore_13 : decode cX10_restore 13 = .ok (.aload_n 0, 1) := by decide +kernel
theorem dX10_restore_14 : decode cX10_restore 14 = .ok (.getfield 16, 3) := by decide +kernel
theorem dX10_restore_17 : decode cX10_restore 17 = .ok (.iload_n 1, 1) := by decide +kernel
theorem dX10_restore_18 : decode cX10_restore 18 = .ok (.iaload, 1) := by decide +kernel
theorem dX10_restore_19 : decode cX10_restore 19 = .ok (.iastore, 1) := by decide +kernel
theorem dX10_restore_20 : decode cX10_restore 20 = .ok (.iinc 1 1, 3) := by decide +kernel
theorem dX10_restore_23 : decode cX10_restore 23 = .ok (.goto (-21), 3) := by decide +kernel
theorem dX10_restore_26 : decode cX10_restore 26 = .ok (.return_, 1) := by decide +kernel
theorem dX10_ends_0 : decode cX10_ends 0 = .ok (.aload_n 0, 1) := by decide +kernel
theorem dX10_ends_1 : decode cX10_ends 1 = .ok (.getfield 47, 3) := by decide +kernel
theorem dX10_ends_4 : decode cX10_ends 4 = .ok (.bipush 6, 2) := by decide +kernel
theorem dX10_ends_6 : decode cX10_ends 6 = .ok (.if_icmp .ne 43, 3) := by decide +kernel
theorem dX10_ends_9 : decode cX10_ends 9 = .ok (.iconst 0, 1) := by decide +kernel
theorem dX10_ends_10 : decode cX10_ends 10 = .ok (.istore_n 2, 1) := by decide +kernel
theorem dX10_ends_11 : decode cX10_ends 11 = .ok (.iload_n 2, 1) := by decide +kernel
theorem dX10_ends_12 : decode cX10_ends 12 = .ok (.sipush 130, 3) := by decide +kernel
theorem dX10_ends_15 : decode cX10_ends 15 = .ok (.if_icmp .ge 24, 3) := by decide +kernel
theorem dX10_ends_18 : decode cX10_ends 18 = .ok (.aload_n 0, 1) := by decide +kernel
theorem dX10_ends_19 : decode cX10_ends 19 = .ok (.getfield 13, 3) := by decide +kernel
theorem dX10_ends_22 : decode cX10_ends 22 = .ok (.iload_n 2, 1) := by decide +kernel
theorem dX10_ends_23 : decode cX10_ends 23 = .ok (.aload_n 0, 1) := by decide +kernel
theorem dX10_ends_24 : decode cX10_ends 24 = .ok (.getfield 13, 3) := by decide +kernel
theorem dX10_ends_27 : decode cX10_ends 27 = .ok (.iload_n 2, 1) := by decide +kernel
theorem dX10_ends_28 : decode cX10_ends 28 = .ok (.bipush 26, 2) := by decide +kernel
theorem dX10_ends_30 : decode cX10_ends 30 = .ok (.iadd, 1) := by decide +kernel
theorem dX10_ends_31 : decode cX10_ends 31 = .ok (.iaload, 1) := by decide +kernel
theorem dX10_ends_32 : decode cX10_ends 32 = .ok (.iastore, 1) := by decide +kernel
theorem dX10_ends_33 : decode cX10_ends 33 = .ok (.iinc 2 1, 3) := by decide +kernel
theorem dX10_ends_36 : decode cX10_ends 36 = .ok (.goto (-25), 3) := by decide +kernel
theorem dX10_ends_39 : decode cX10_ends 39 = .ok (.aload_n 0, 1) := by decide +kernel
theorem dX10_ends_40 : decode cX10_ends 40 = .ok (.dup, 1) := by decide +kernel
theorem dX10_ends_41 : decode cX10_ends 41 = .ok (.getfield 47, 3) := by decide +kernel
theorem dX10_ends_44 : decode cX10_ends 44 = .ok (.iconst 1, 1) := by decide +kernel
theorem dX10_ends_45 : decode cX10_ends 45 = .ok (.isub, 1) := by decide +kernel
theorem dX10_ends_46 : decode cX10_ends 46 = .ok (.putfield 47, 3) := by decide +kernel
theorem dX10_ends_49 : decode cX10_ends 49 = .ok (.iconst 0, 1) := by decide +kernel
theorem dX10_ends_50 : decode cX10_ends 50 = .ok (.istore_n 2, 1) := by decide +kernel
theorem dX10_ends_51 : decode cX10_ends 51 = .ok (.iload_n 2, 1) := by decide +kernel
theorem dX10_ends_52 : decode cX10_ends 52 = .ok (.bipush 26, 2) := by decide +kernel
theorem dX10_ends_54 : decode cX10_ends 54 = .ok (.if_icmp .ge 29, 3) := by decide +kernel
theorem dX10_ends_57 : decode cX10_ends 57 = .ok (.aload_n 0, 1) := by decide +kernel
theorem dX10_ends_58 : decode cX10_ends 58 = .ok (.getfield 13, 3) := by decide +kernel
theorem dX10_ends_61 : decode cX10_ends 61 = .ok (.bipush 26, 2) := by decide +kernel
theorem dX10_ends_63 : decode cX10_ends 63 = .ok (.aload_n 0, 1) := by decide +kernel
theorem dX10_ends_64 : decode cX10_ends 64 = .ok (.getfield 47, 3) := by decide +kernel
theorem dX10_ends_67 : decode cX10_ends 67 = .ok (.imul, 1) := by decide +kernel
theorem dX10_ends_68 : decode cX10_ends 68 = .ok (.iload_n 2, 1) := by decide +kernel
theorem dX10_ends_69 : decode cX10_ends 69 = .ok (.iadd, 1) := by decide +kernel
theorem dX10_ends_70 : decode cX10_ends 70 = .ok (.aload_n 0, 1) := by decide +kernel
theorem dX10_ends_71 : decode cX10_ends 71 = .ok (.getfield 16, 3) := by decide +kernel
theorem dX10_ends_74 : decode cX10_ends 74 = .ok (.iload_n 2, 1) := by decide +kernel
theorem dX10_ends_75 : decode cX10_ends 75 = .ok (.iaload, 1) := by decide +kernel
theorem dX10_ends_76 : decode cX10_ends 76 = .ok (.iastore, 1) := by decide +kernel
theorem dX10_ends_77 : decode cX10_ends 77 = .ok (.iinc 2 1, 3) := by decide +kernel
theorem dX10_ends_80 : decode cX10_ends 80 = .ok (.goto (-29), 3) := by decide +kernel
theorem dX10_ends_83 : decode cX10_ends 83 = .ok (.aload_n 0, 1) := by decide +kernel
theorem dX10_ends_84 : decode cX10_ends 84 = .ok (.dup, 1) := by decide +kernel
theorem dX10_ends_85 : decode cX10_ends 85 = .ok (.getfield 47, 3) := by decide +kernel
theorem dX10_ends_88 : decode cX10_ends 88 = .ok (.iconst 1, 1) := by decide +kernel
theorem dX10_ends_89 : decode cX10_ends 89 = .ok (.iadd, 1) := by decide +kernel
theorem dX10_ends_90 : decode cX10_ends 90 = .ok (.putfield 47, 3) := by decide +kernel
theorem dX10_ends_93 : decode cX10_ends 93 = .ok (.iload_n 1, 1) := by decide +kernel
theorem dX10_ends_94 : decode cX10_ends 94 = .ok (.ireturn, 1) := by decide +kernel
set_option maxRecDepth 20000 in
theorem ggX10_isNode_X10_in : GoodIn wsX10_isNode wsX10_in := goodIn_r _ [5] (by decide +kernel) (by decide +kernel)
set_option maxRecDepth 20000 in
theorem gX10_isNode_X10_in : GoodIn wsX10_isNode (va_wsS RX10 51 yX10_in wsX10_in) := goodIn_app (goodIn_of _ (by decide +kernel)) ggX10_isNode_X10_in
theorem dX10_isNode_0 : decode cX10_isNode 0 = .ok (.iload_n 1, 1) := by decide +kernel
theorem dX10_isNode_1 : decode cX10_isNode 1 = .ok (.iconst 0, 1) := by decide +kernel
theorem dX10_isNode_2 : decode cX10_isNode 2 = .ok (.aload_n 0, 1) := by decide +kernel
theorem dX10_isNode_3 : decode cX10_isNode 3 = .ok (.getfield 7, 3) := by decide +kernel
theorem dX10_isNode_6 : decode cX10_isNode 6 = .ok (.iconst 0, 1) := by decide +kernel
theorem dX10_isNode_7 : decode cX10_isNode 7 = .ok (.iaload, 1) := by decide +kernel
theorem dX10_isNode_8 : decode cX10_isNode 8 = .ok (.iconst 1, 1) := by decide +kernel
theorem dX10_isNode_9 : decode cX10_isNode 9 = .ok (.isub, 1) := by decide +kernel
theorem dX10_isNode_10 : decode cX10_isNode 10 = .ok (.invokestatic 51, 3) := by decide +kernel
theorem dX10_isNode_13 : decode cX10_isNode 13 = .ok (.ireturn, 1) := by decide +kernel
set_option maxRecDepth 20000 in
theorem ggX10_isRound_X10_in : GoodIn wsX10_isRound wsX10_in := goodIn_r _ [5] (by decide +kernel) (by decide +kernel)
set_option maxRecDepth 20000 in
theorem gX10_isRound_X10_in : GoodIn wsX10_isRound (va_wsS RX10 51 yX10_in wsX10_in) := goodIn_app (goodIn_of _ (by decide +kernel)) ggX10_isRound_X10_in
theorem dX10_isRound_0 : decode cX10_isRound 0 = .ok (.iload_n 1, 1) := by decide +kernel
theorem dX10_isRound_1 : decode cX10_isRound 1 = .ok (.iconst 0, 1) := by decide +kernel
theorem dX10_isRound_2 : decode cX10_isRound 2 = .ok (.aload_n 0, 1) := by decide +kernel
theorem dX10_isRound_3 : decode cX10_isRound 3 = .ok (.getfield 7, 3) := by decide +kernel
theorem dX10_isRound_6 : decode cX10_isRound 6 = .ok (.iconst 1, 1) := by decide +kernel
theorem dX10_isRound_7 : decode cX10_isRound 7 = .ok (.iaload, 1) := by decide +kernel
theorem dX10_isRound_8 : decode cX10_isRound 8 = .ok (.iconst 1, 1) := by decide +kernel
theorem dX10_isRound_9 : decode cX10_isRound 9 = .ok (.isub, 1) := by decide +kernel
theorem dX10_isRound_10 : decode cX10_isRound 10 = .ok (.invokestatic 51, 3) := by decide +kernel
theorem dX10_isRound_13 : decode cX10_isRound 13 = .ok (.ireturn, 1) := by decide +kernel
theorem dX10_pair_0 : decode cX10_pair 0 = .ok (.iload_n 0, 1) := by decide +kernel
theorem dX10_pair_1 : decode cX10_pair 1 = .ok (.iload_n 1, 1) := by decide +kernel
theorem dX10_pair_2 : decode cX10_pair 2 = .ok (.if_icmp .ge 17, 3) := by decide +kernel
theorem dX10_pair_5 : decode cX10_pair 5 = .ok (.iconst 1, 1) := by decide +kernel
theorem dX10_pair_6 : decode cX10_pair 6 = .ok (.iload_n 1, 1) := by decide +kernel
theorem dX10_pair_7 : decode cX10_pair 7 = .ok (.iload_n 1, 1) := by decide +kernel
theorem dX10_pair_8 : decode cX10_pair 8 = .ok (.iconst 1, 1) := by decide +kernel
theorem dX10_pair_9 : decode cX10_pair 9 = .ok (.isub, 1) := by decide +kernel
theorem dX10_pair_10 : decode cX10_pair 10 = .ok (.imul, 1) := by decide +kernel
theorem dX10_pair_11 : decode cX10_pair 11 = .ok (.iconst 2, 1) := by decide +kernel
theorem dX10_pair_12 : decode cX10_pair 12 = .ok (.idiv, 1) := by decide +kernel
theorem dX10_pair_13 : decode cX10_pair 13 = .ok (.iload_n 0, 1) := by decide +kernel
theorem dX10_pair_14 : decode cX10_pair 14 = .ok (.iadd, 1) := by decide +kernel
theorem dX10_pair_15 : decode cX10_pair 15 = .ok (.ishl, 1) := by decide +kernel
theorem dX10_pair_16 : decode cX10_pair 16 = .ok (.goto 14, 3) := by decide +kernel
theorem dX10_pair_19 : decode cX10_pair 19 = .ok (.iconst 1, 1) := by decide +kernel
theorem dX10_pair_20 : decode cX10_pair 20 = .ok (.iload_n 0, 1) := by decide +kernel
theorem dX10_pair_21 : decode cX10_pair 21 = .ok (.iload_n 0, 1) := by decide +kernel
theorem dX10_pair_22 : decode cX10_pair 22 = .ok (.iconst 1, 1) := by decide +kernel
theorem dX10_pair_23 : decode cX10_pair 23 = .ok (.isub, 1) := by decide +kernel
theorem dX10_pair_24 : decode cX10_pair 24 = .ok (.imul, 1) := by decide +kernel
theorem dX10_pair_25 : decode cX10_pair 25 = .ok (.iconst 2, 1) := by decide +kernel
theorem dX10_pair_26 : decode cX10_pair 26 = .ok (.idiv, 1) := by decide +kernel
theorem dX10_pair_27 : decode cX10_pair 27 = .ok (.iload_n 1, 1) := by decide +kernel
theorem dX10_pair_28 : decode cX10_pair 28 = .ok (.iadd, 1) := by decide +kernel
theorem dX10_pair_29 : decode cX10_pair 29 = .ok (.ishl, 1) := by decide +kernel
theorem dX10_pair_30 : decode cX10_pair 30 = .ok (.ireturn, 1) := by decide +kernel
set_option maxRecDepth 20000 in
theorem ggX10_isPair_X10_isNode : GoodIn wsX10_isPair wsX10_isNode := goodIn_r _ [5, 6, 7, 8, 4, 9, 10, 11, 12, 13, 14, 15, 16, 17, 18, 19, 20, 21, 22, 23, 24, 25, 26, 27, 28] (by decide +kernel) (by decide +kernel)
set_option maxRecDepth 20000 in
theorem gX10_isPair_X10_isNode : GoodIn wsX10_isPair (wsV RX10 55 RX10 yX10_isNode wsX10_isNode) := goodIn_app (goodIn_of _ (by decide +kernel)) ggX10_isPair_X10_isNode
theorem dX10_isPair_0 : decode cX10_isPair 0 = .ok (.aload_n 0, 1) := by decide +kernel
theorem dX10_isPair_1 : decode cX10_isPair 1 = .ok (.iload_n 1, 1) := by decide +kernel
theorem dX10_isPair_2 : decode cX10_isPair 2 = .ok (.invokevirtual 55, 3) := by decide +kernel
theorem dX10_isPair_5 : decode cX10_isPair 5 = .ok (.ifCond .eq 20, 3) := by decide +kernel
theorem dX10_isPair_8 : decode cX10_isPair 8 = .ok (.aload_n 0, 1) := by decide +kernel
theorem dX10_isPair_9 : decode cX10_isPair 9 = .ok (.iload_n 2, 1) := by decide +kernel
theorem dX10_isPair_10 : decode cX10_isPair 10 = .ok (.invokevirtual 55, 3) := by decide +kernel
theorem dX10_isPair_13 : decode cX10_isPair 13 = .ok (.ifCond .eq 12, 3) := by decide +kernel
theorem dX10_isPair_16 : decode cX10_isPair 16 = .ok (.iload_n 1, 1) := by decide +kernel
theorem dX10_isPair_17 : decode cX10_isPair 17 = .ok (.iload_n 2, 1) := by decide +kernel
theorem dX10_isPair_18 : decode cX10_isPair 18 = .ok (.if_icmp .eq 7, 3) := by decide +kernel
theorem dX10_isPair_21 : decode cX10_isPair 21 = .ok (.iconst 1, 1) := by decide +kernel
theorem dX10_isPair_22 : decode cX10_isPair 22 = .ok (.goto 4, 3) := by decide +kernel
theorem dX10_isPair_25 : decode cX10_isPair 25 = .ok (.iconst 0, 1) := by decide +kernel
theorem dX10_isPair_26 : decode cX10_isPair 26 = .ok (.ireturn, 1) := by decide +kernel
theorem dX10_size_0 : decode cX10_size 0 = .ok (.iconst 0, 1) := by decide +kernel
theorem dX10_size_1 : decode cX10_size 1 = .ok (.istore_n 1, 1) := by decide +kernel
theorem dX10_size_2 : decode cX10_size 2 = .ok (.iconst 0, 1) := by decide +kernel
theorem dX10_size_3 : decode cX10_size 3 = .ok (.istore_n 2, 1) := by decide +kernel
theorem dX10_size_4 : decode cX10_size 4 = .ok (.iload_n 2, 1) := by decide +kernel
theorem dX10_size_5 : decode cX10_size 5 = .ok (.bipush 28, 2) := by decide +kernel
theorem dX10_size_7 : decode cX10_size 7 = .ok (.if_icmp .ge 17, 3) := by decide +kernel
theorem dX10_size_10 : decode cX10_size 10 = .ok (.iload_n 1, 1) := by decide +kernel
theorem dX10_size_11 : decode cX10_size 11 = .ok (.iload_n 0, 1) := by decide +kernel
theorem dX10_size_12 : decode cX10_size 12 = .ok (.iload_n 2, 1) := by decide +kernel
theorem dX10_size_13 : decode cX10_size 13 = .ok (.ishr, 1) := by decide +kernel
theorem dX10_size_14 : decode cX10_size 14 = .ok (.iconst 1, 1) := by decide +kernel
theorem dX10_size_15 : decode cX10_size 15 = .ok (.iand, 1) := by decide +kernel
theorem dX10_size_16 : decode cX10_size 16 = .ok (.iadd, 1) := by decide +kernel
theorem dX10_size_17 : decode cX10_size 17 = .ok (.istore_n 1, 1) := by decide +kernel
theorem dX10_size_18 : decode cX10_size 18 = .ok (.iinc 2 1, 3) := by decide +kernel
theorem dX10_size_21 : decode cX10_size 21 = .ok (.goto (-17), 3) := by decide +kernel
theorem dX10_size_24 : decode cX10_size 24 = .ok (.iload_n 1, 1) := by decide +kernel
theorem dX10_size_25 : decode cX10_size 25 = .ok (.ireturn, 1) := by decide +kernel
theorem dX10_all_0 : decode cX10_all 0 = .ok (.iconst 1, 1) := by decide +kernel
theorem dX10_all_1 : decode cX10_all 1 = .ok (.aload_n 0, 1) := by decide +kernel
theorem dX10_all_2 : decode cX10_all 2 = .ok (.getfield 7, 3) := by decide +kernel
theorem dX10_all_5 : decode cX10_all 5 = .ok (.iconst 0, 1) := by decide +kernel
theorem dX10_all_6 : decode cX10_all 6 = .ok (.iaload, 1) := by decide +kernel
theorem dX10_all_7 : decode cX10_all 7 = .ok (.ishl, 1) := by decide +kernel
theorem dX10_all_8 : decode cX10_all 8 = .ok (.iconst 1, 1) := by decide +kernel
theorem dX10_all_9 : decode cX10_all 9 = .ok (.isub, 1) := by decide +kernel
theorem dX10_all_10 : decode cX10_all 10 = .ok (.ireturn, 1) := by decide +kernel
set_option maxRecDepth 20000 in
theorem ggX10_setNodes_X10_in : GoodIn wsX10_setNodes wsX10_in := goodIn_r _ [5] (by decide +kernel) (by decide +kernel)
set_option maxRecDepth 20000 in
theorem gX10_setNodes_X10_in : GoodIn wsX10_setNodes (va_wsS RX10 51 yX10_in wsX10_in) := goodIn_app (goodIn_of _ (by decide +kernel)) ggX10_setNodes_X10_in
set_option maxRecDepth 20000 in
theorem ggX10_setNodes_X10_hold : GoodIn wsX10_setNodes wsX10_hold := goodIn_r _ [9, 10, 1, 21, 22, 23, 24, 25, 26, 27, 28, 29, 30, 31, 32, 33, 34, 35, 36, 37, 38, 39] (by decide +kernel) (by decide +kernel)
set_option maxRecDepth 20000 in
theorem gX10_setNodes_X10_hold : GoodIn wsX10_setNodes (wsV RX10 59 RX10 yX10_hold wsX10_hold) := goodIn_app (goodIn_of _ (by decide +kernel)) ggX10_setNodes_X10_hold
set_option maxRecDepth 20000 in
theorem ggX10_setNodes_X10_begins : GoodIn wsX10_setNodes wsX10_begins := goodIn_r _ [14, 1, 21, 22, 23, 24, 25, 26, 27, 28, 29, 30, 31, 32, 33, 34, 35, 36, 37, 38, 39] (by decide +kernel) (by decide +kernel)
set_option maxRecDepth 20000 in
theorem gX10_setNodes_X10_begins : GoodIn wsX10_setNodes (wsV RX10 43 RX10 yX10_begins wsX10_begins) := goodIn_app (goodIn_of _ (by decide +kernel)) ggX10_setNodes_X10_begins
set_option maxRecDepth 20000 in
theorem ggX10_setNodes_X10_ends : GoodIn wsX10_setNodes wsX10_ends := goodIn_r _ [18, 19, 20, 10, 21, 22, 23, 24, 25, 26, 27, 28, 29, 30, 31, 32, 33, 34, 35, 36, 37, 38, 39] (by decide +kernel) (by decide +kernel)
set_option maxRecDepth 20000 in
theorem gX10_setNodes_X10_ends : GoodIn wsX10_setNodes (wsV RX10 62 RX10 yX10_ends wsX10_ends) := goodIn_app (goodIn_of _ (by decide +kernel)) ggX10_setNodes_X10_ends
theorem dX10_setNodes_0 : decode cX10_setNodes 0 = .ok (.iload_n 1, 1) := by decide +kernel
theorem dX10_setNodes_1 : decode cX10_setNodes 1 = .ok (.iconst 2, 1) := by decide +kernel
theorem dX10_setNodes_2 : decode cX10_setNodes 2 = .ok (.bipush 8, 2) := by decide +kernel
theorem dX10_setNodes_4 : decode cX10_setNodes 4 = .ok (.invokestatic 51, 3) := by decide +kernel
theorem dX10_setNodes_7 : decode cX10_setNodes 7 = .ok (.ifCond .ne 5, 3) := by decide +kernel
theorem dX10_setNodes_10 : decode cX10_setNodes 10 = .ok (.iconst (-1), 1) := by decide +kernel
theorem dX10_setNodes_11 : decode cX10_setNodes 11 = .ok (.ireturn, 1) := by decide +kernel
theorem dX10_setNodes_12 : decode cX10_setNodes 12 = .ok (.aload_n 0, 1) := by decide +kernel
theorem dX10_setNodes_13 : decode cX10_setNodes 13 = .ok (.invokevirtual 59, 3) := by decide +kernel
theorem dX10_setNodes_16 : decode cX10_setNodes 16 = .ok (.aload_n 0, 1) := by decide +kernel
theorem dX10_setNodes_17 : decode cX10_setNodes 17 = .ok (.getfield 7, 3) := by decide +kernel
theorem dX10_setNodes_20 : decode cX10_setNodes 20 = .ok (.iconst 0, 1) := by decide +kernel
theorem dX10_setNodes_21 : decode cX10_setNodes 21 = .ok (.iaload, 1) := by decide +kernel
theorem dX10_setNodes_22 : decode cX10_setNodes 22 = .ok (.istore_n 2, 1) := by decide +kernel
theorem dX10_setNodes_23 : decode cX10_setNodes 23 = .ok (.aload_n 0, 1) := by decide +kernel
theorem dX10_setNodes_24 : decode cX10_setNodes 24 = .ok (.iload_n 1, 1) := by decide +kernel
theorem dX10_setNodes_25 : decode cX10_setNodes 25 = .ok (.invokevirtual 43, 3) := by decide +kernel
theorem dX10_setNodes_28 : decode cX10_setNodes 28 = .ok (.aload_n 0, 1) := by decide +kernel
theorem dX10_setNodes_29 : decode cX10_setNodes 29 = .ok (.iload_n 2, 1) := by decide +kernel
theorem dX10_setNodes_30 : decode cX10_setNodes 30 = .ok (.invokevirtual 62, 3) := by decide +kernel
theorem dX10_setNodes_33 : decode cX10_setNodes 33 = .ok (.ireturn, 1) := by decide +kernel
theorem dX10_adds_0 : decode cX10_adds 0 = .ok (.aload_n 0, 1) := by decide +kernel
theorem dX10_adds_1 : decode cX10_adds 1 = .ok (.getfield 7, 3) := by decide +kernel
theorem dX10_adds_4 : decode cX10_adds 4 = .ok (.iconst 2, 1) := by decide +kernel
theorem dX10_adds_5 : decode cX10_adds 5 = .ok (.aload_n 0, 1) := by decide +kernel
theorem dX10_adds_6 : decode cX10_adds 6 = .ok (.getfield 7, 3) := by decide +kernel
theorem dX10_adds_9 : decode cX10_adds 9 = .ok (.iconst 1, 1) := by decide +kernel
theorem dX10_adds_10 : decode cX10_adds 10 = .ok (.iaload, 1) := by decide +kernel
theorem dX10_adds_11 : decode cX10_adds 11 = .ok (.iadd, 1) := by decide +kernel
theorem dX10_adds_12 : decode cX10_adds 12 = .ok (.iload_n 1, 1) := by decide +kernel
theorem dX10_adds_13 : decode cX10_adds 13 = .ok (.iastore, 1) := by decide +kernel
theorem dX10_adds_14 : decode cX10_adds 14 = .ok (.aload_n 0, 1) := by decide +kernel
theorem dX10_adds_15 : decode cX10_adds 15 = .ok (.getfield 7, 3) := by decide +kernel
theorem dX10_adds_18 : decode cX10_adds 18 = .ok (.iconst 1, 1) := by decide +kernel
theorem dX10_adds_19 : decode cX10_adds 19 = .ok (.dup2, 1) := by decide +kernel
theorem dX10_adds_20 : decode cX10_adds 20 = .ok (.iaload, 1) := by decide +kernel
theorem dX10_adds_21 : decode cX10_adds 21 = .ok (.iconst 1, 1) := by decide +kernel
theorem dX10_adds_22 : decode cX10_adds 22 = .ok (.iadd, 1) := by decide +kernel
theorem dX10_adds_23 : decode cX10_adds 23 = .ok (.iastore, 1) := by decide +kernel
theorem dX10_adds_24 : decode cX10_adds 24 = .ok (.return_, 1) := by decide +kernel
set_option maxRecDepth 20000 in
theorem ggX10_addRound_X10_hold : GoodIn wsX10_addRound wsX10_hold := goodIn_r _ [6, 7, 1, 18, 19, 20, 21, 22, 23, 24, 25, 26, 27, 28, 29, 30, 31, 32, 33, 34, 35, 36] (by decide +kernel) (by decide +kernel)
set_option maxRecDepth 20000 in
theorem gX10_addRound_X10_hold : GoodIn wsX10_addRound (wsV RX10 59 RX10 yX10_hold wsX10_hold) := goodIn_app (goodIn_of _ (by decide +kernel)) ggX10_addRound_X10_hold
set_option maxRecDepth 20000 in
theorem ggX10_addRound_X10_adds : GoodIn wsX10_addRound wsX10_adds := goodIn_r _ [11, 1, 18, 19, 20, 21, 22, 23, 24, 25, 26, 27, 28, 29, 30, 31, 32, 33, 34, 35, 36] (by decide +kernel) (by decide +kernel)
set_option maxRecDepth 20000 in
theorem gX10_addRound_X10_adds : GoodIn wsX10_addRound (wsV RX10 66 RX10 yX10_adds wsX10_adds) := goodIn_app (goodIn_of _ (by decide +kernel)) ggX10_addRound_X10_adds
set_option maxRecDepth 20000 in
theorem ggX10_addRound_X10_ends : GoodIn wsX10_addRound wsX10_ends := goodIn_r _ [15, 16, 17, 7, 18, 19, 20, 21, 22, 23, 24, 25, 26, 27, 28, 29, 30, 31, 32, 33, 34, 35, 36] (by decide +kernel) (by decide +kernel)
set_option maxRecDepth 20000 in
theorem gX10_addRound_X10_ends : GoodIn wsX10_addRound (wsV RX10 62 RX10 yX10_ends wsX10_ends) := goodIn_app (goodIn_of _ (by decide +kernel)) ggX10_addRound_X10_ends
theorem dX10_addRound_0 : decode cX10_addRound 0 = .ok (.aload_n 0, 1) := by decide +kernel
theorem dX10_addRound_1 : decode cX10_addRound 1 = .ok (.getfield 7, 3) := by decide +kernel
theorem dX10_addRound_4 : decode cX10_addRound 4 = .ok (.iconst 1, 1) := by decide +kernel
theorem dX10_addRound_5 : decode cX10_addRound 5 = .ok (.iaload, 1) := by decide +kernel
theorem dX10_addRound_6 : decode cX10_addRound 6 = .ok (.bipush 16, 2) := by decide +kernel
theorem dX10_addRound_8 : decode cX10_addRound 8 = .ok (.if_icmp .ne 6, 3) := by decide +kernel
theorem dX10_addRound_11 : decode cX10_addRound 11 = .ok (.bipush (-3), 2) := by decide +kernel
theorem dX10_addRound_13 : decode cX10_addRound 13 = .ok (.ireturn, 1) := by decide +kernel
theorem dX10_addRound_14 : decode cX10_addRound 14 = .ok (.aload_n 0, 1) := by decide +kernel
theorem dX10_addRound_15 : decode cX10_addRound 15 = .ok (.invokevirtual 59, 3) := by decide +kernel
theorem dX10_addRound_18 : decode cX10_addRound 18 = .ok (.aload_n 0, 1) := by decide +kernel
theorem dX10_addRound_19 : decode cX10_addRound 19 = .ok (.iconst 0, 1) := by decide +kernel
theorem dX10_addRound_20 : decode cX10_addRound 20 = .ok (.invokevirtual 66, 3) := by decide +kernel
theorem dX10_addRound_23 : decode cX10_addRound 23 = .ok (.aload_n 0, 1) := by decide +kernel
theorem dX10_addRound_24 : decode cX10_addRound 24 = .ok (.aload_n 0, 1) := by decide +kernel
theorem dX10_addRound_25 : decode cX10_addRound 25 = .ok (.getfield 7, 3) := by decide +kernel
theorem dX10_addRound_28 : decode cX10_addRound 28 = .ok (.iconst 1, 1) := by decide +kernel
theorem dX10_addRound_29 : decode cX10_addRound 29 = .ok (.iaload, 1) := by decide +kernel
theorem dX10_addRound_30 : decode cX10_addRound 30 = .ok (.iconst 1, 1) := by decide +kernel
theorem dX10_addRound_31 : decode cX10_addRound 31 = .ok (.isub, 1) := by decide +kernel
theorem dX10_addRound_32 : decode cX10_addRound 32 = .ok (.invokevirtual 62, 3) := by decide +kernel
theorem dX10_addRound_35 : decode cX10_addRound 35 = .ok (.ireturn, 1) := by decide +kernel
set_option maxRecDepth 20000 in
theorem ggX10_setEdge_X10_isRound : GoodIn wsX10_setEdge wsX10_isRound := goodIn_r _ [6, 1, 7, 8, 5, 9, 35, 36, 37, 38, 39, 40, 41, 42, 43, 44, 45, 46, 47, 48, 49, 50, 51, 52, 53] (by decide +kernel) (by decide +kernel)
set_option maxRecDepth 20000 in
theorem gX10_setEdge_X10_isRound : GoodIn wsX10_setEdge (wsV RX10 69 RX10 yX10_isRound wsX10_isRound) := goodIn_app (goodIn_of _ (by decide +kernel)) ggX10_setEdge_X10_isRound
set_option maxRecDepth 20000 in
theorem ggX10_setEdge_X10_isPair : GoodIn wsX10_setEdge wsX10_isPair := goodIn_r _ [13, 14, 15, 16, 5, 17, 1, 7, 8, 9, 35, 36, 37, 38, 39, 40, 41, 42, 43, 44, 45, 46, 47, 48, 49, 50, 51, 52, 53] (by decide +kernel) (by decide +kernel)
set_option maxRecDepth 20000 in
theorem gX10_setEdge_X10_isPair : GoodIn wsX10_setEdge (wsV RX10 72 RX10 yX10_isPair wsX10_isPair) := goodIn_app (goodIn_of _ (by decide +kernel)) ggX10_setEdge_X10_isPair
set_option maxRecDepth 20000 in
theorem ggX10_setEdge_X10_in : GoodIn wsX10_setEdge wsX10_in := goodIn_r _ [9] (by decide +kernel) (by decide +kernel)
set_option maxRecDepth 20000 in
theorem gX10_setEdge_X10_in : GoodIn wsX10_setEdge (va_wsS RX10 51 yX10_in wsX10_in) := goodIn_app (goodIn_of _ (by decide +kernel)) ggX10_setEdge_X10_in
set_option maxRecDepth 20000 in
theorem ggX10_setEdge_X10_pair : GoodIn wsX10_setEdge wsX10_pair := goodIn_r _ [20] (by decide +kernel) (by decide +kernel)
set_option maxRecDepth 20000 in
theorem gX10_setEdge_X10_pair : GoodIn wsX10_setEdge (va_wsS RX10 76 yX10_pair wsX10_pair) := goodIn_app (goodIn_of _ (by decide +kernel)) ggX10_setEdge_X10_pair
set_option maxRecDepth 20000 in
theorem ggX10_setEdge_X10_hold : GoodIn wsX10_setEdge wsX10_hold := goodIn_r _ [24, 25, 1, 35, 36, 37, 38, 39, 40, 41, 42, 43, 44, 45, 46, 47, 48, 49, 50, 51, 52, 53] (by decide +kernel) (by decide +kernel)
set_option maxRecDepth 20000 in
theorem gX10_setEdge_X10_hold : GoodIn wsX10_setEdge (wsV RX10 59 RX10 yX10_hold wsX10_hold) := goodIn_app (goodIn_of _ (by decide +kernel)) ggX10_setEdge_X10_hold
set_option maxRecDepth 20000 in
theorem ggX10_setEdge_X10_size : GoodIn wsX10_setEdge wsX10_size := goodIn_r _ [28] (by decide +kernel) (by decide +kernel)
set_option maxRecDepth 20000 in
theorem gX10_setEdge_X10_size : GoodIn wsX10_setEdge (va_wsS RX10 80 yX10_size wsX10_size) := goodIn_app (goodIn_of _ (by decide +kernel)) ggX10_setEdge_X10_size
set_option maxRecDepth 20000 in
theorem ggX10_setEdge_X10_ends : GoodIn wsX10_setEdge wsX10_ends := goodIn_r _ [32, 33, 34, 25, 35, 36, 37, 38, 39, 40, 41, 42, 43, 44, 45, 46, 47, 48, 49, 50, 51, 52, 53] (by decide +kernel) (by decide +kernel)
set_option maxRecDepth 20000 in
theorem gX10_setEdge_X10_ends : GoodIn wsX10_setEdge (wsV RX10 62 RX10 yX10_ends wsX10_ends) := goodIn_app (goodIn_of _ (by decide +kernel)) ggX10_setEdge_X10_ends
theorem dX10_setEdge_0 : decode cX10_setEdge 0 = .ok (.aload_n 0, 1) := by decide +kernel
theorem dX10_setEdge_1 : decode cX10_setEdge 1 = .ok (.iload_n 1, 1) := by decide +kernel
theorem dX10_setEdge_2 : decode cX10_setEdge 2 = .ok (.invokevirtual 69, 3) := by decide +kernel
theorem dX10_setEdge_5 : decode cX10_setEdge 5 = .ok (.ifCond .eq 22, 3) := by decide +kernel
theorem dX10_setEdge_8 : decode cX10_setEdge 8 = .ok (.aload_n 0, 1) := by decide +kernel
theorem dX10_setEdge_9 : decode cX10_setEdge 9 = .ok (.iload_n 2, 1) := by decide +kernel
theorem dX10_setEdge_10 : decode cX10_setEdge 10 = .ok (.iload_n 3, 1) := by decide +kernel
theorem dX10_setEdge_11 : decode cX10_setEdge 11 = .ok (.invokevirtual 72, 3) := by decide +kernel
theorem dX10_setEdge_14 : decode cX10_setEdge 14 = .ok (.ifCond .eq 13, 3) := by decide +kernel
theorem dX10_setEdge_17 : decode cX10_setEdge 17 = .ok (.iload 4, 2) := by decide +kernel
theorem dX10_setEdge_19 : decode cX10_setEdge 19 = .ok (.iconst 0, 1) := by decide +kernel
theorem dX10_setEdge_20 : decode cX10_setEdge 20 = .ok (.iconst 1, 1) := by decide +kernel
theorem dX10_setEdge_21 : decode cX10_setEdge 21 = .ok (.invokestatic 51, 3) := by decide +kernel
theorem dX10_setEdge_24 : decode cX10_setEdge 24 = .ok (.ifCond .ne 5, 3) := by decide +kernel
theorem dX10_setEdge_27 : decode cX10_setEdge 27 = .ok (.iconst (-1), 1) := by decide +kernel
theorem dX10_setEdge_28 : decode cX10_setEdge 28 = .ok (.ireturn, 1) := by decide +kernel
theorem dX10_setEdge_29 : decode cX10_setEdge 29 = .ok (.aload_n 0, 1) := by decide +kernel
theorem dX10_setEdge_30 : decode cX10_setEdge 30 = .ok (.getfield 7, 3) := by decide +kernel
theorem dX10_setEdge_33 : decode cX10_setEdge 33 = .ok (.iconst 2, 1) := by decide +kernel
theorem dX10_setEdge_34 : decode cX10_setEdge 34 = .ok (.iload_n 1, 1) := by decide +kernel
theorem dX10_setEdge_35 : decode cX10_setEdge 35 = .ok (.iadd, 1) := by decide +kernel
theorem dX10_setEdge_36 : decode cX10_setEdge 36 = .ok (.iaload, 1) := by decide +kernel
theorem dX10_setEdge_37 : decode cX10_setEdge 37 = .ok (.iload_n 2, 1) := by decide +kernel
theorem dX10_setEdge_38 : decode cX10_setEdge 38 = .ok (.iload_n 3, 1) := by decide +kernel
theorem dX10_setEdge_39 : decode cX10_setEdge 39 = .ok (.invokestatic 76, 3) := by decide +kernel
theorem dX10_setEdge_42 : decode cX10_setEdge 42 = .ok (.iand, 1) := by decide +kernel
theorem dX10_setEdge_43 : decode cX10_setEdge 43 = .ok (.ifCond .eq 7, 3) := by decide +kernel
theorem dX10_setEdge_46 : decode cX10_setEdge 46 = .ok (.iconst 1, 1) := by decide +kernel
theorem dX10_setEdge_47 : decode cX10_setEdge 47 = .ok (.goto 4, 3) := by decide +kernel
theorem dX10_setEdge_50 : decode cX10_setEdge 50 = .ok (.iconst 0, 1) := by decide +kernel
theorem dX10_setEdge_51 : decode cX10_setEdge 51 = .ok (.istore 5, 2) := by decide +kernel
theorem dX10_setEdge_53 : decode cX10_setEdge 53 = .ok (.iload 5, 2) := by decide +kernel
theorem dX10_setEdge_55 : decode cX10_setEdge 55 = .ok (.iload 4, 2) := by decide +kernel
theorem dX10_setEdge_57 : decode cX10_setEdge 57 = .ok (.iconst 1, 1) := by decide +kernel
theorem dX10_setEdge_58 : decode cX10_setEdge 58 = .ok (.if_icmp .ne 7, 3) := by decide +kernel
theorem dX10_setEdge_61 : decode cX10_setEdge 61 = .ok (.iconst 1, 1) := by decide +kernel
theorem dX10_setEdge_62 : decode cX10_setEdge 62 = .ok (.goto 4, 3) := by decide +kernel
theorem dX10_setEdge_65 : decode cX10_setEdge 65 = .ok (.iconst 0, 1) := by decide +kernel
theorem dX10_setEdge_66 : decode cX10_setEdge 66 = .ok (.if_icmp .ne 6, 3) := by decide +kernel
theorem dX10_setEdge_69 : decode cX10_setEdge 69 = .ok (.bipush (-2), 2) := by decide +kernel
theorem dX10_setEdge_71 : decode cX10_setEdge 71 = .ok (.ireturn, 1) := by decide +kernel
theorem dX10_setEdge_72 : decode cX10_setEdge 72 = .ok (.aload_n 0, 1) := by decide +kernel
theorem dX10_setEdge_73 : decode cX10_setEdge 73 = .ok (.invokevirtual 59, 3) := by decide +kernel
theorem dX10_setEdge_76 : decode cX10_setEdge 76 = .ok (.aload_n 0, 1) := by decide +kernel
theorem dX10_setEdge_77 : decode cX10_setEdge 77 = .ok (.getfield 7, 3) := by decide +kernel
theorem dX10_setEdge_80 : decode cX10_setEdge 80 = .ok (.iconst 2, 1) := by decide +kernel
theorem dX10_setEdge_81 : decode cX10_setEdge 81 = .ok (.iload_n 1, 1) := by decide +kernel
theorem dX10_setEdge_82 : decode cX10_setEdge 82 = .ok (.iadd, 1) := by decide +kernel
theorem dX10_setEdge_83 : decode cX10_setEdge 83 = .ok (.dup2, 1) := by decide +kernel
theorem dX10_setEdge_84 : decode cX10_setEdge 84 = .ok (.iaload, 1) := by decide +kernel
theorem dX10_setEdge_85 : decode cX10_setEdge 85 = .ok (.iload_n 2, 1) := by decide +kernel
theorem dX10_setEdge_86 : decode cX10_setEdge 86 = .ok (.iload_n 3, 1) := by decide +kernel
theorem dX10_setEdge_87 : decode cX10_setEdge 87 = .ok (.invokestatic 76, 3) := by decide +kernel
theorem dX10_setEdge_90 : decode cX10_setEdge 90 = .ok (.ixor, 1) := by decide +kernel
theorem dX10_setEdge_91 : decode cX10_setEdge 91 = .ok (.iastore, 1) := by decide +kernel
theorem dX10_setEdge_92 : decode cX10_setEdge 92 = .ok (.aload_n 0, 1) := by decide +kernel
theorem dX10_setEdge_93 : decode cX10_setEdge 93 = .ok (.aload_n 0, 1) := by decide +kernel
theorem dX10_setEdge_94 : decode cX10_setEdge 94 = .ok (.getfield 7, 3) := by decide +kernel
theorem dX10_setEdge_97 : decode cX10_setEdge 97 = .ok (.iconst 2, 1) := by decide +kernel
theorem dX10_setEdge_98 : decode cX10_setEdge 98 = .ok (.iload_n 1, 1) := by decide +kernel
theorem dX10_setEdge_99 : decode cX10_setEdge 99 = .ok (.iadd, 1) := by decide +kernel
theorem dX10_setEdge_100 : decode cX10_setEdge 100 = .ok (.iaload, 1) := by decide +kernel
theorem dX10_setEdge_101 : decode cX10_setEdge 101 = .ok (.invokestatic 80, 3) := by decide +kernel
theorem dX10_setEdge_104 : decode cX10_setEdge 104 = .ok (.invokevirtual 62, 3) := by decide +kernel
theorem dX10_setEdge_107 : decode cX10_setEdge 107 = .ok (.ireturn, 1) := by decide +kernel
set_option maxRecDepth 20000 in
theorem ggX10_removeRound_X10_isRound : GoodIn wsX10_removeRound wsX10_isRound := goodIn_r _ [6, 1, 7, 8, 5, 9, 21, 22, 23, 24, 25, 26, 27, 28, 29, 30, 31, 32, 33, 34, 35, 36, 37, 38, 39] (by decide +kernel) (by decide +kernel)
set_option maxRecDepth 20000 in
theorem gX10_removeRound_X10_isRound : GoodIn wsX10_removeRound (wsV RX10 69 RX10 yX10_isRound wsX10_isRound) := goodIn_app (goodIn_of _ (by decide +kernel)) ggX10_removeRound_X10_isRound
set_option maxRecDepth 20000 in
theorem ggX10_removeRound_X10_hold : GoodIn wsX10_removeRound wsX10_hold := goodIn_r _ [13, 14, 1, 21, 22, 23, 24, 25, 26, 27, 28, 29, 30, 31, 32, 33, 34, 35, 36, 37, 38, 39] (by decide +kernel) (by decide +kernel)
set_option maxRecDepth 20000 in
theorem gX10_removeRound_X10_hold : GoodIn wsX10_removeRound (wsV RX10 59 RX10 yX10_hold wsX10_hold) := goodIn_app (goodIn_of _ (by decide +kernel)) ggX10_removeRound_X10_hold
set_option maxRecDepth 20000 in
theorem ggX10_removeRound_X10_ends : GoodIn wsX10_removeRound wsX10_ends := goodIn_r _ [18, 19, 20, 14, 21, 22, 23, 24, 25, 26, 27, 28, 29, 30, 31, 32, 33, 34, 35, 36, 37, 38, 39] (by decide +kernel) (by decide +kernel)
set_option maxRecDepth 20000 in
theorem gX10_removeRound_X10_ends : GoodIn wsX10_removeRound (wsV RX10 62 RX10 yX10_ends wsX10_ends) := goodIn_app (goodIn_of _ (by decide +kernel)) ggX10_removeRound_X10_ends
theorem dX10_removeRound_0 : decode cX10_removeRound 0 = .ok (.aload_n 0, 1) := by decide +kernel
theorem dX10_removeRound_1 : decode cX10_removeRound 1 = .ok (.iload_n 1, 1) := by decide +kernel
theorem dX10_removeRound_2 : decode cX10_removeRound 2 = .ok (.invokevirtual 69, 3) := by decide +kernel
theorem dX10_removeRound_5 : decode cX10_removeRound 5 = .ok (.ifCond .ne 5, 3) := by decide +kernel
theorem dX10_removeRound_8 : decode cX10_removeRound 8 = .ok (.iconst (-1), 1) := by decide +kernel
theorem dX10_removeRound_9 : decode cX10_removeRound 9 = .ok (.ireturn, 1) := by decide +kernel
theorem dX10_removeRound_10 : decode cX10_removeRound 10 = .ok (.aload_n 0, 1) := by decide +kernel
theorem dX10_removeRound_11 : decode cX10_removeRound 11 = .ok (.invokevirtual 59, 3) := by decide +kernel
theorem dX10_removeRound_14 : decode cX10_removeRound 14 = .ok (.aload_n 0, 1) := by decide +kernel
theorem dX10_removeRound_15 : decode cX10_removeRound 15 = .ok (.getfield 7, 3) := by decide +kernel
theorem dX10_removeRound_18 : decode cX10_removeRound 18 = .ok (.iconst 1, 1) := by decide +kernel
theorem dX10_removeRound_19 : decode cX10_removeRound 19 = .ok (.dup2, 1) := by decide +kernel
theorem dX10_removeRound_20 : decode cX10_removeRound 20 = .ok (.iaload, 1) := by decide +kernel
theorem dX10_removeRound_21 : decode cX10_removeRound 21 = .ok (.iconst 1, 1) := by decide +kernel
theorem dX10_removeRound_22 : decode cX10_removeRound 22 = .ok (.isub, 1) := by decide +kernel
theorem dX10_removeRound_23 : decode cX10_removeRound 23 = .ok (.iastore, 1) := by decide +kernel
theorem dX10_removeRound_24 : decode cX10_removeRound 24 = .ok (.iload_n 1, 1) := by decide +kernel
theorem dX10_removeRound_25 : decode cX10_removeRound 25 = .ok (.istore_n 2, 1) := by decide +kernel
theorem dX10_removeRound_26 : decode cX10_removeRound 26 = .ok (.iload_n 2, 1) := by decide +kernel
theorem dX10_removeRound_27 : decode cX10_removeRound 27 = .ok (.aload_n 0, 1) := by decide +kernel
theorem dX10_removeRound_28 : decode cX10_removeRound 28 = .ok (.getfield 7, 3) := by decide +kernel
theorem dX10_removeRound_31 : decode cX10_removeRound 31 = .ok (.iconst 1, 1) := by decide +kernel
theorem dX10_removeRound_32 : decode cX10_removeRound 32 = .ok (.iaload, 1) := by decide +kernel
theorem dX10_removeRound_33 : decode cX10_removeRound 33 = .ok (.if_icmp .ge 27, 3) := by decide +kernel
theorem dX10_removeRound_36 : decode cX10_removeRound 36 = .ok (.aload_n 0, 1) := by decide +kernel
theorem dX10_removeRound_37 : decode cX10_removeRound 37 = .ok (.getfield 7, 3) := by decide +kernel
theorem dX10_removeRound_40 : decode cX10_removeRound 40 = .ok (.iconst 2, 1) := by decide +kernel
theorem dX10_removeRound_41 : decode cX10_removeRound 41 = .ok (.iload_n 2, 1) := by decide +kernel
theorem dX10_removeRound_42 : decode cX10_removeRound 42 = .ok (.iadd, 1) := by decide +kernel
theorem dX10_removeRound_43 : decode cX10_removeRound 43 = .ok (.aload_n 0, 1) := by decide +kernel
theorem dX10_removeRound_44 : decode cX10_removeRound 44 = .ok (.getfield 7, 3) := by decide +kernel
theorem dX10_removeRound_47 : decode cX10_removeRound 47 = .ok (.iconst 2, 1) := by decide +kernel
theorem dX10_removeRound_48 : decode cX10_removeRound 48 = .ok (.iload_n 2, 1) := by decide +kernel
theorem dX10_removeRound_49 : decode cX10_removeRound 49 = .ok (.iadd, 1) := by decide +kernel
theorem dX10_removeRound_50 : decode cX10_removeRound 50 = .ok (.iconst 1, 1) := by decide +kernel
theorem dX10_removeRound_51 : decode cX10_removeRound 51 = .ok (.iadd, 1) := by decide +kernel
theorem dX10_removeRound_52 : decode cX10_removeRound 52 = .ok (.iaload, 1) := by decide +kernel
theorem dX10_removeRound_53 : decode cX10_removeRound 53 = .ok (.iastore, 1) := by decide +kernel
theorem dX10_removeRound_54 : decode cX10_removeRound 54 = .ok (.iinc 2 1, 3) := by decide +kernel
theorem dX10_removeRound_57 : decode cX10_removeRound 57 = .ok (.goto (-31), 3) := by decide +kernel
theorem dX10_removeRound_60 : decode cX10_removeRound 60 = .ok (.aload_n 0, 1) := by decide +kernel
theorem dX10_removeRound_61 : decode cX10_removeRound 61 = .ok (.aload_n 0, 1) := by decide +kernel
theorem dX10_removeRound_62 : decode cX10_removeRound 62 = .ok (.getfield 7, 3) := by decide +kernel
theorem dX10_removeRound_65 : decode cX10_removeRound 65 = .ok (.iconst 1, 1) := by decide +kernel
theorem dX10_removeRound_66 : decode cX10_removeRound 66 = .ok (.iaload, 1) := by decide +kernel
theorem dX10_removeRound_67 : decode cX10_removeRound 67 = .ok (.invokevirtual 62, 3) := by decide +kernel
theorem dX10_removeRound_70 : decode cX10_removeRound 70 = .ok (.ireturn, 1) := by decide +kernel
set_option maxRecDepth 20000 in
theorem ggX10_swapRounds_X10_isRound : GoodIn wsX10_swapRounds wsX10_isRound := goodIn_r _ [6, 1, 7, 8, 5, 9, 24, 25, 26, 27, 28, 29, 30, 31, 32, 33, 34, 35, 36, 37, 38, 39, 40, 41, 42] (by decide +kernel) (by decide +kernel)
set_option maxRecDepth 20000 in
theorem gX10_swapRounds_X10_isRound : GoodIn wsX10_swapRounds (wsV RX10 69 RX10 yX10_isRound wsX10_isRound) := goodIn_app (goodIn_of _ (by decide +kernel)) ggX10_swapRounds_X10_isRound
set_option maxRecDepth 20000 in
theorem ggX10_swapRounds_X10_hold : GoodIn wsX10_swapRounds wsX10_hold := goodIn_r _ [13, 14, 1, 24, 25, 26, 27, 28, 29, 30, 31, 32, 33, 34, 35, 36, 37, 38, 39, 40, 41, 42] (by decide +kernel) (by decide +kernel)
set_option maxRecDepth 20000 in
theorem gX10_swapRounds_X10_hold : GoodIn wsX10_swapRounds (wsV RX10 59 RX10 yX10_hold wsX10_hold) := goodIn_app (goodIn_of _ (by decide +kernel)) ggX10_swapRounds_X10_hold
set_option maxRecDepth 20000 in
theorem ggX10_swapRounds_X10_size : GoodIn wsX10_swapRounds wsX10_size := goodIn_r _ [17] (by decide +kernel) (by decide +kernel)
set_option maxRecDepth 20000 in
theorem gX10_swapRounds_X10_size : GoodIn wsX10_swapRounds (va_wsS RX10 80 yX10_size wsX10_size) := goodIn_app (goodIn_of _ (by decide +kernel)) ggX10_swapRounds_X10_size
set_option maxRecDepth 20000 in
theorem ggX10_swapRounds_X10_ends : GoodIn wsX10_swapRounds wsX10_ends := goodIn_r _ [21, 22, 23, 14, 24, 25, 26, 27, 28, 29, 30, 31, 32, 33, 34, 35, 36, 37, 38, 39, 40, 41, 42] (by decide +kernel) (by decide +kernel)
set_option maxRecDepth 20000 in
theorem gX10_swapRounds_X10_ends : GoodIn wsX10_swapRounds (wsV RX10 62 RX10 yX10_ends wsX10_ends) := goodIn_app (goodIn_of _ (by decide +kernel)) ggX10_swapRounds_X10_ends
theorem dX10_swapRounds_0 : decode cX10_swapRounds 0 = .ok (.aload_n 0, 1) := by decide +kernel
theorem dX10_swapRounds_1 : decode cX10_swapRounds 1 = .ok (.iload_n 1, 1) := by decide +kernel
theorem dX10_swapRounds_2 : decode cX10_swapRounds 2 = .ok (.invokevirtual 69, 3) := by decide +kernel
theorem dX10_swapRounds_5 : decode cX10_swapRounds 5 = .ok (.ifCond .eq 11, 3) := by decide +kernel
theorem dX10_swapRounds_8 : decode cX10_swapRounds 8 = .ok (.aload_n 0, 1) := by decide +kernel
theorem dX10_swapRounds_9 : decode cX10_swapRounds 9 = .ok (.iload_n 2, 1) := by decide +kernel
theorem dX10_swapRounds_10 : decode cX10_swapRounds 10 = .ok (.invokevirtual 69, 3) := by decide +kernel
theorem dX10_swapRounds_13 : decode cX10_swapRounds 13 = .ok (.ifCond .ne 5, 3) := by decide +kernel
theorem dX10_swapRounds_16 : decode cX10_swapRounds 16 = .ok (.iconst (-1), 1) := by decide +kernel
theorem dX10_swapRounds_17 : decode cX10_swapRounds 17 = .ok (.ireturn, 1) := by decide +kernel
theorem dX10_swapRounds_18 : decode cX10_swapRounds 18 = .ok (.aload_n 0, 1) := by decide +kernel
theorem dX10_swapRounds_19 : decode cX10_swapRounds 19 = .ok (.invokevirtual 59, 3) := by decide +kernel
theorem dX10_swapRounds_22 : decode cX10_swapRounds 22 = .ok (.aload_n 0, 1) := by decide +kernel
theorem dX10_swapRounds_23 : decode cX10_swapRounds 23 = .ok (.getfield 7, 3) := by decide +kernel
theorem dX10_swapRounds_26 : decode cX10_swapRounds 26 = .ok (.iconst 2, 1) := by decide +kernel
theorem dX10_swapRounds_27 : decode cX10_swapRounds 27 = .ok (.iload_n 1, 1) := by decide +kernel
theorem dX10_swapRounds_28 : decode cX10_swapRounds 28 = .ok (.iadd, 1) := by decide +kernel
theorem dX10_swapRounds_29 : decode cX10_swapRounds 29 = .ok (.iaload, 1) := by decide +kernel
theorem dX10_swapRounds_30 : decode cX10_swapRounds 30 = .ok (.istore_n 3, 1) := by decide +kernel
theorem dX10_swapRounds_31 : decode cX10_swapRounds 31 = .ok (.aload_n 0, 1) := by decide +kernel
theorem dX10_swapRounds_32 : decode cX10_swapRounds 32 = .ok (.getfield 7, 3) := by decide +kernel
theorem dX10_swapRounds_35 : decode cX10_swapRounds 35 = .ok (.iconst 2, 1) := by decide +kernel
theorem dX10_swapRounds_36 : decode cX10_swapRounds 36 = .ok (.iload_n 1, 1) := by decide +kernel
theorem dX10_swapRounds_37 : decode cX10_swapRounds 37 = .ok (.iadd, 1) := by decide +kernel
theorem dX10_swapRounds_38 : decode cX10_swapRounds 38 = .ok (.aload_n 0, 1) := by decide +kernel
theorem dX10_swapRounds_39 : decode cX10_swapRounds 39 = .ok (.getfield 7, 3) := by decide +kernel
theorem dX10_swapRounds_42 : decode cX10_swapRounds 42 = .ok (.iconst 2, 1) := by decide +kernel
theorem dX10_swapRounds_43 : decode cX10_swapRounds 43 = .ok (.iload_n 2, 1) := by decide +kernel
theorem dX10_swapRounds_44 : decode cX10_swapRounds 44 = .ok (.iadd, 1) := by decide +kernel
theorem dX10_swapRounds_45 : decode cX10_swapRounds 45 = .ok (.iaload, 1) := by decide +kernel
theorem dX10_swapRounds_46 : decode cX10_swapRounds 46 = .ok (.iastore, 1) := by decide +kernel
theorem dX10_swapRounds_47 : decode cX10_swapRounds 47 = .ok (.aload_n 0, 1) := by decide +kernel
theorem dX10_swapRounds_48 : decode cX10_swapRounds 48 = .ok (.getfield 7, 3) := by decide +kernel
theorem dX10_swapRounds_51 : decode cX10_swapRounds 51 = .ok (.iconst 2, 1) := by decide +kernel
theorem dX10_swapRounds_52 : decode cX10_swapRounds 52 = .ok (.iload_n 2, 1) := by decide +kernel
theorem dX10_swapRounds_53 : decode cX10_swapRounds 53 = .ok (.iadd, 1) := by decide +kernel
theorem dX10_swapRounds_54 : decode cX10_swapRounds 54 = .ok (.iload_n 3, 1) := by decide +kernel
theorem dX10_swapRounds_55 : decode cX10_swapRounds 55 = .ok (.iastore, 1) := by decide +kernel
theorem dX10_swapRounds_56 : decode cX10_swapRounds 56 = .ok (.aload_n 0, 1) := by decide +kernel
theorem dX10_swapRounds_57 : decode cX10_swapRounds 57 = .ok (.iload_n 3, 1) := by decide +kernel
theorem dX10_swapRounds_58 : decode cX10_swapRounds 58 = .ok (.aload_n 0, 1) := by decide +kernel
theorem dX10_swapRounds_59 : decode cX10_swapRounds 59 = .ok (.getfield 7, 3) := by decide +kernel
theorem dX10_swapRounds_62 : decode cX10_swapRounds 62 = .ok (.iconst 2, 1) := by decide +kernel
theorem dX10_swapRounds_63 : decode cX10_swapRounds 63 = .ok (.iload_n 1, 1) := by decide +kernel
theorem dX10_swapRounds_64 : decode cX10_swapRounds 64 = .ok (.iadd, 1) := by decide +kernel
theorem dX10_swapRounds_65 : decode cX10_swapRounds 65 = .ok (.iaload, 1) := by decide +kernel
theorem dX10_swapRounds_66 : decode cX10_swapRounds 66 = .ok (.ixor, 1) := by decide +kernel
theorem dX10_swapRounds_67 : decode cX10_swapRounds 67 = .ok (.invokestatic 80, 3) := by decide +kernel
theorem dX10_swapRounds_70 : decode cX10_swapRounds 70 = .ok (.invokevirtual 62, 3) := by decide +kernel
theorem dX10_swapRounds_73 : decode cX10_swapRounds 73 = .ok (.ireturn, 1) := by decide +kernel
set_option maxRecDepth 20000 in
theorem ggX10_clique_X10_pair : GoodIn wsX10_clique wsX10_pair := goodIn_r _ [5] (by decide +kernel) (by decide +kernel)
set_option maxRecDepth 20000 in
theorem gX10_clique_X10_pair : GoodIn wsX10_clique (va_wsS RX10 76 yX10_pair wsX10_pair) := goodIn_app (goodIn_of _ (by decide +kernel)) ggX10_clique_X10_pair
theorem dX10_clique_0 : decode cX10_clique 0 = .ok (.iconst 0, 1) := by decide +kernel
theorem dX10_clique_1 : decode cX10_clique 1 = .ok (.istore_n 2, 1) := by decide +kernel
theorem dX10_clique_2 : decode cX10_clique 2 = .ok (.iconst 0, 1) := by decide +kernel
theorem dX10_clique_3 : decode cX10_clique 3 = .ok (.istore_n 3, 1) := by decide +kernel
theorem dX10_clique_4 : decode cX10_clique 4 = .ok (.iload_n 3, 1) := by decide +kernel
theorem dX10_clique_5 : decode cX10_clique 5 = .ok (.aload_n 0, 1) := by decide +kernel
theorem dX10_clique_6 : decode cX10_clique 6 = .ok (.getfield 7, 3) := by decide +kernel
theorem dX10_clique_9 : decode cX10_clique 9 = .ok (.iconst 0, 1) := by decide +kernel
theorem dX10_clique_10 : decode cX10_clique 10 = .ok (.iaload, 1) := by decide +kernel
theorem dX10_clique_11 : decode cX10_clique 11 = .ok (.if_icmp .ge 51, 3) := by decide +kernel
theorem dX10_clique_14 : decode cX10_clique 14 = .ok (.iconst 0, 1) := by decide +kernel
theorem dX10_clique_15 : decode cX10_clique 15 = .ok (.istore 4, 2) := by decide +kernel
theorem dX10_clique_17 : decode cX10_clique 17 = .ok (.iload 4, 2) := by decide +kernel
theorem dX10_clique_19 : decode cX10_clique 19 = .ok (.iload_n 3, 1) := by decide +kernel
theorem dX10_clique_20 : decode cX10_clique 20 = .ok (.if_icmp .ge 36, 3) := by decide +kernel
theorem dX10_clique_23 : decode cX10_clique 23 = .ok (.iload_n 2, 1) := by decide +kernel
theorem dX10_clique_24 : decode cX10_clique 24 = .ok (.iload_n 1, 1) := by decide +kernel
theorem dX10_clique_25 : decode cX10_clique 25 = .ok (.iload 4, 2) := by decide +kernel
theorem dX10_clique_27 : decode cX10_clique 27 = .ok (.ishr, 1) := by decide +kernel
theorem dX10_clique_28 : decode cX10_clique 28 = .ok (.iload_n 1, 1) := by decide +kernel
theorem dX10_clique_29 : decode cX10_clique 29 = .ok (.iload_n 3, 1) := by decide +kernel
theorem dX10_clique_30 : decode cX10_clique 30 = .ok (.ishr, 1) := by decide +kernel
theorem dX10_clique_31 : decode cX10_clique 31 = .ok (.iand, 1) := by decide +kernel
theorem dX10_clique_32 : decode cX10_clique 32 = .ok (.iconst 1, 1) := by decide +kernel
theorem dX10_clique_33 : decode cX10_clique 33 = .ok (.iand, 1) := by decide +kernel
theorem dX10_clique_34 : decode cX10_clique 34 = .ok (.iconst 1, 1) := by decide +kernel
theorem dX10_clique_35 : decode cX10_clique 35 = .ok (.if_icmp .ne 12, 3) := by decide +kernel
theorem dX10_clique_38 : decode cX10_clique 38 = .ok (.iload 4, 2) := by decide +kernel
theorem dX10_clique_40 : decode cX10_clique 40 = .ok (.iload_n 3, 1) := by decide +kernel
theorem dX10_clique_41 : decode cX10_clique 41 = .ok (.invokestatic 76, 3) := by decide +kernel
theorem dX10_clique_44 : decode cX10_clique 44 = .ok (.goto 4, 3) := by decide +kernel
theorem dX10_clique_47 : decode cX10_clique 47 = .ok (.iconst 0, 1) := by decide +kernel
theorem dX10_clique_48 : decode cX10_clique 48 = .ok (.ior, 1) := by decide +kernel
theorem dX10_clique_49 : decode cX10_clique 49 = .ok (.istore_n 2, 1) := by decide +kernel
theorem dX10_clique_50 : decode cX10_clique 50 = .ok (.iinc 4 1, 3) := by decide +kernel
theorem dX10_clique_53 : decode cX10_clique 53 = .ok (.goto (-36), 3) := by decide +kernel
theorem dX10_clique_56 : decode cX10_clique 56 = .ok (.iinc 3 1, 3) := by decide +kernel
theorem dX10_clique_59 : decode cX10_clique 59 = .ok (.goto (-55), 3) := by decide +kernel
theorem dX10_clique_62 : decode cX10_clique 62 = .ok (.iload_n 2, 1) := by decide +kernel
theorem dX10_clique_63 : decode cX10_clique 63 = .ok (.ireturn, 1) := by decide +kernel
set_option maxRecDepth 20000 in
theorem ggX10_star_X10_pair : GoodIn wsX10_star wsX10_pair := goodIn_r _ [5] (by decide +kernel) (by decide +kernel)
set_option maxRecDepth 20000 in
theorem gX10_star_X10_pair : GoodIn wsX10_star (va_wsS RX10 76 yX10_pair wsX10_pair) := goodIn_app (goodIn_of _ (by decide +kernel)) ggX10_star_X10_pair
theorem dX10_star_0 : decode cX10_star 0 = .ok (.iconst 0, 1) := by decide +kernel
theorem dX10_star_1 : decode cX10_star 1 = .ok (.istore_n 2, 1) := by decide +kernel
theorem dX10_star_2 : decode cX10_star 2 = .ok (.iconst 0, 1) := by decide +kernel
theorem dX10_star_3 : decode cX10_star 3 = .ok (.istore_n 3, 1) := by decide +kernel
theorem dX10_star_4 : decode cX10_star 4 = .ok (.iload_n 3, 1) := by decide +kernel
theorem dX10_star_5 : decode cX10_star 5 = .ok (.aload_n 0, 1) := by decide +kernel
theorem dX10_star_6 : decode cX10_star 6 = .ok (.getfield 7, 3) := by decide +kernel
theorem dX10_star_9 : decode cX10_star 9 = .ok (.iconst 0, 1) := by decide +kernel
theorem dX10_star_10 : decode cX10_star 10 = .ok (.iaload, 1) := by decide +kernel
theorem dX10_star_11 : decode cX10_star 11 = .ok (.if_icmp .ge 26, 3) := by decide +kernel
theorem dX10_star_14 : decode cX10_star 14 = .ok (.iload_n 2, 1) := by decide +kernel
theorem dX10_star_15 : decode cX10_star 15 = .ok (.iload_n 3, 1) := by decide +kernel
theorem dX10_star_16 : decode cX10_star 16 = .ok (.iload_n 1, 1) := by decide +kernel
theorem dX10_star_17 : decode cX10_star 17 = .ok (.if_icmp .ne 7, 3) := by decide +kernel
theorem dX10_star_20 : decode cX10_star 20 = .ok (.iconst 0, 1) := by decide +kernel
theorem dX10_star_21 : decode cX10_star 21 = .ok (.goto 8, 3) := by decide +kernel
theorem dX10_star_24 : decode cX10_star 24 = .ok (.iload_n 3, 1) := by decide +kernel
theorem dX10_star_25 : decode cX10_star 25 = .ok (.iload_n 1, 1) := by decide +kernel
theorem dX10_star_26 : decode cX10_star 26 = .ok (.invokestatic 76, 3) := by decide +kernel
theorem dX10_star_29 : decode cX10_star 29 = .ok (.ior, 1) := by decide +kernel
theorem dX10_star_30 : decode cX10_star 30 = .ok (.istore_n 2, 1) := by decide +kernel
theorem dX10_star_31 : decode cX10_star 31 = .ok (.iinc 3 1, 3) := by decide +kernel
theorem dX10_star_34 : decode cX10_star 34 = .ok (.goto (-30), 3) := by decide +kernel
theorem dX10_star_37 : decode cX10_star 37 = .ok (.iload_n 2, 1) := by decide +kernel
theorem dX10_star_38 : decode cX10_star 38 = .ok (.ireturn, 1) := by decide +kernel
theorem dX10_lowest_0 : decode cX10_lowest 0 = .ok (.iconst 0, 1) := by decide +kernel
theorem dX10_lowest_1 : decode cX10_lowest 1 = .ok (.istore_n 1, 1) := by decide +kernel
theorem dX10_lowest_2 : decode cX10_lowest 2 = .ok (.iload_n 0, 1) := by decide +kernel
theorem dX10_lowest_3 : decode cX10_lowest 3 = .ok (.iload_n 1, 1) := by decide +kernel
theorem dX10_lowest_4 : decode cX10_lowest 4 = .ok (.ishr, 1) := by decide +kernel
theorem dX10_lowest_5 : decode cX10_lowest 5 = .ok (.iconst 1, 1) := by decide +kernel
theorem dX10_lowest_6 : decode cX10_lowest 6 = .ok (.iand, 1) := by decide +kernel
theorem dX10_lowest_7 : decode cX10_lowest 7 = .ok (.ifCond .ne 9, 3) := by decide +kernel
theorem dX10_lowest_10 : decode cX10_lowest 10 = .ok (.iinc 1 1, 3) := by decide +kernel
theorem dX10_lowest_13 : decode cX10_lowest 13 = .ok (.goto (-11), 3) := by decide +kernel
theorem dX10_lowest_16 : decode cX10_lowest 16 = .ok (.iload_n 1, 1) := by decide +kernel
theorem dX10_lowest_17 : decode cX10_lowest 17 = .ok (.ireturn, 1) := by decide +kernel
theorem dX10_highest_0 : decode cX10_highest 0 = .ok (.bipush 7, 2) := by decide +kernel
theorem dX10_highest_2 : decode cX10_highest 2 = .ok (.istore_n 1, 1) := by decide +kernel
theorem dX10_highest_3 : decode cX10_highest 3 = .ok (.iload_n 0, 1) := by decide +kernel
theorem dX10_highest_4 : decode cX10_highest 4 = .ok (.iload_n 1, 1) := by decide +kernel
theorem dX10_highest_5 : decode cX10_highest 5 = .ok (.ishr, 1) := by decide +kernel
theorem dX10_highest_6 : decode cX10_highest 6 = .ok (.iconst 1, 1) := by decide +kernel
theorem dX10_highest_7 : decode cX10_highest 7 = .ok (.iand, 1) := by decide +kernel
theorem dX10_highest_8 : decode cX10_highest 8 = .ok (.ifCond .ne 9, 3) := by decide +kernel
theorem dX10_highest_11 : decode cX10_highest 11 = .ok (.iinc 1 (-1), 3) := by decide +kernel
theorem dX10_highest_14 : decode cX10_highest 14 = .ok (.goto (-11), 3) := by decide +kernel
theorem dX10_highest_17 : decode cX10_highest 17 = .ok (.iload_n 1, 1) := by decide +kernel
theorem dX10_highest_18 : decode cX10_highest 18 = .ok (.ireturn, 1) := by decide +kernel
set_option maxRecDepth 20000 in
theorem ggX10_pathOf_X10_pair : GoodIn wsX10_pathOf wsX10_pair := goodIn_r _ [5] (by decide +kernel) (by decide +kernel)
set_option maxRecDepth 20000 in
theorem gX10_pathOf_X10_pair : GoodIn wsX10_pathOf (va_wsS RX10 76 yX10_pair wsX10_pair) := goodIn_app (goodIn_of _ (by decide +kernel)) ggX10_pathOf_X10_pair
theorem dX10_pathOf_0 : decode cX10_pathOf 0 = .ok (.iconst 0, 1) := by decide +kernel
theorem dX10_pathOf_1 : decode cX10_pathOf 1 = .ok (.istore_n 2, 1) := by decide +kernel
theorem dX10_pathOf_2 : decode cX10_pathOf 2 = .ok (.bipush (-9), 2) := by decide +kernel
theorem dX10_pathOf_4 : decode cX10_pathOf 4 = .ok (.istore_n 3, 1) := by decide +kernel
theorem dX10_pathOf_5 : decode cX10_pathOf 5 = .ok (.iconst 0, 1) := by decide +kernel
theorem dX10_pathOf_6 : decode cX10_pathOf 6 = .ok (.istore 4, 2) := by decide +kernel
theorem dX10_pathOf_8 : decode cX10_pathOf 8 = .ok (.iload 4, 2) := by decide +kernel
theorem dX10_pathOf_10 : decode cX10_pathOf 10 = .ok (.aload_n 0, 1) := by decide +kernel
theorem dX10_pathOf_11 : decode cX10_pathOf 11 = .ok (.getfield 7, 3) := by decide +kernel
theorem dX10_pathOf_14 : decode cX10_pathOf 14 = .ok (.iconst 0, 1) := by decide +kernel
theorem dX10_pathOf_15 : decode cX10_pathOf 15 = .ok (.iaload, 1) := by decide +kernel
theorem dX10_pathOf_16 : decode cX10_pathOf 16 = .ok (.if_icmp .ge 41, 3) := by decide +kernel
theorem dX10_pathOf_19 : decode cX10_pathOf 19 = .ok (.iload_n 1, 1) := by decide +kernel
theorem dX10_pathOf_20 : decode cX10_pathOf 20 = .ok (.iload 4, 2) := by decide +kernel
theorem dX10_pathOf_22 : decode cX10_pathOf 22 = .ok (.ishr, 1) := by decide +kernel
theorem dX10_pathOf_23 : decode cX10_pathOf 23 = .ok (.iconst 1, 1) := by decide +kernel
theorem dX10_pathOf_24 : decode cX10_pathOf 24 = .ok (.iand, 1) := by decide +kernel
theorem dX10_pathOf_25 : decode cX10_pathOf 25 = .ok (.iconst 1, 1) := by decide +kernel
theorem dX10_pathOf_26 : decode cX10_pathOf 26 = .ok (.if_icmp .ne 25, 3) := by decide +kernel
theorem dX10_pathOf_29 : decode cX10_pathOf 29 = .ok (.iload_n 2, 1) := by decide +kernel
theorem dX10_pathOf_30 : decode cX10_pathOf 30 = .ok (.iload_n 3, 1) := by decide +kernel
theorem dX10_pathOf_31 : decode cX10_pathOf 31 = .ok (.bipush (-9), 2) := by decide +kernel
theorem dX10_pathOf_33 : decode cX10_pathOf 33 = .ok (.if_icmp .ne 7, 3) := by decide +kernel
theorem dX10_pathOf_36 : decode cX10_pathOf 36 = .ok (.iconst 0, 1) := by decide +kernel
theorem dX10_pathOf_37 : decode cX10_pathOf 37 = .ok (.goto 9, 3) := by decide +kernel
theorem dX10_pathOf_40 : decode cX10_pathOf 40 = .ok (.iload_n 3, 1) := by decide +kernel
theorem dX10_pathOf_41 : decode cX10_pathOf 41 = .ok (.iload 4, 2) := by decide +kernel
theorem dX10_pathOf_43 : decode cX10_pathOf 43 = .ok (.invokestatic 76, 3) := by decide +kernel
theorem dX10_pathOf_46 : decode cX10_pathOf 46 = .ok (.ior, 1) := by decide +kernel
theorem dX10_pathOf_47 : decode cX10_pathOf 47 = .ok (.istore_n 2, 1) := by decide +kernel
theorem dX10_pathOf_48 : decode cX10_pathOf 48 = .ok (.iload 4, 2) := by decide +kernel
theorem dX10_pathOf_50 : decode cX10_pathOf 50 = .ok (.istore_n 3, 1) := by decide +kernel
theorem dX10_pathOf_51 : decode cX10_pathOf 51 = .ok (.iinc 4 1, 3) := by decide +kernel
theorem dX10_pathOf_54 : decode cX10_pathOf 54 = .ok (.goto (-46), 3) := by decide +kernel
theorem dX10_pathOf_57 : decode cX10_pathOf 57 = .ok (.iload_n 2, 1) := by decide +kernel
theorem dX10_pathOf_58 : decode cX10_pathOf 58 = .ok (.ireturn, 1) := by decide +kernel
set_option maxRecDepth 20000 in
theorem ggX10_against_X10_floods : GoodIn wsX10_against wsX10_floods := goodIn_r _ [7, 8, 9, 10, 6, 11, 2, 12, 13, 14, 15, 1, 16, 17, 18, 19, 20, 21, 22, 23, 46, 47, 48, 49, 50, 51, 52, 53, 54, 55, 56, 57, 58, 59, 60, 61, 62, 63, 64] (by decide +kernel) (by decide +kernel)
set_option maxRecDepth 20000 in
theorem gX10_against_X10_floods : GoodIn wsX10_against (wsV RX10 83 RX10 yX10_floods wsX10_floods) := goodIn_app (goodIn_of _ (by decide +kernel)) ggX10_against_X10_floods
set_option maxRecDepth 20000 in
theorem ggX10_against_X10_all : GoodIn wsX10_against wsX10_all := goodIn_r _ [27, 1, 46, 47, 48, 49, 50, 51, 52, 53, 54, 55, 56, 57, 58, 59, 60, 61, 62, 63, 64] (by decide +kernel) (by decide +kernel)
set_option maxRecDepth 20000 in
theorem gX10_against_X10_all : GoodIn wsX10_against (wsV RX10 87 RX10 yX10_all wsX10_all) := goodIn_app (goodIn_of _ (by decide +kernel)) ggX10_against_X10_all
set_option maxRecDepth 20000 in
theorem ggX10_against_X10_highest : GoodIn wsX10_against wsX10_highest := goodIn_r _ [30] (by decide +kernel) (by decide +kernel)
set_option maxRecDepth 20000 in
theorem gX10_against_X10_highest : GoodIn wsX10_against (va_wsS RX10 91 yX10_highest wsX10_highest) := goodIn_app (goodIn_of _ (by decide +kernel)) ggX10_against_X10_highest
set_option maxRecDepth 20000 in
theorem ggX10_against_X10_lowest : GoodIn wsX10_against wsX10_lowest := goodIn_r _ [33] (by decide +kernel) (by decide +kernel)
set_option maxRecDepth 20000 in
theorem gX10_against_X10_lowest : GoodIn wsX10_against (va_wsS RX10 94 yX10_lowest wsX10_lowest) := goodIn_app (goodIn_of _ (by decide +kernel)) ggX10_against_X10_lowest
set_option maxRecDepth 20000 in
theorem ggX10_against_X10_pair : GoodIn wsX10_against wsX10_pair := goodIn_r _ [23] (by decide +kernel) (by decide +kernel)
set_option maxRecDepth 20000 in
theorem gX10_against_X10_pair : GoodIn wsX10_against (va_wsS RX10 76 yX10_pair wsX10_pair) := goodIn_app (goodIn_of _ (by decide +kernel)) ggX10_against_X10_pair
set_option maxRecDepth 20000 in
theorem ggX10_against_X10_pathOf : GoodIn wsX10_against wsX10_pathOf := goodIn_r _ [37, 1, 21, 22, 6, 23, 46, 47, 48, 49, 50, 51, 52, 53, 54, 55, 56, 57, 58, 59, 60, 61, 62, 63, 64] (by decide +kernel) (by decide +kernel)
set_option maxRecDepth 20000 in
theorem gX10_against_X10_pathOf : GoodIn wsX10_against (wsV RX10 97 RX10 yX10_pathOf wsX10_pathOf) := goodIn_app (goodIn_of _ (by decide +kernel)) ggX10_against_X10_pathOf
set_option maxRecDepth 20000 in
theorem ggX10_against_X10_star : GoodIn wsX10_against wsX10_star := goodIn_r _ [41, 1, 21, 22, 6, 23, 46, 47, 48, 49, 50, 51, 52, 53, 54, 55, 56, 57, 58, 59, 60, 61, 62, 63, 64] (by decide +kernel) (by decide +kernel)
set_option maxRecDepth 20000 in
theorem gX10_against_X10_star : GoodIn wsX10_against (wsV RX10 100 RX10 yX10_star wsX10_star) := goodIn_app (goodIn_of _ (by decide +kernel)) ggX10_against_X10_star
set_option maxRecDepth 20000 in
theorem ggX10_against_X10_clique : GoodIn wsX10_against wsX10_clique := goodIn_r _ [45, 1, 21, 22, 6, 23, 46, 47, 48, 49, 50, 51, 52, 53, 54, 55, 56, 57, 58, 59, 60, 61, 62, 63, 64] (by decide +kernel) (by decide +kernel)
set_option maxRecDepth 20000 in
theorem gX10_against_X10_clique : GoodIn wsX10_against (wsV RX10 103 RX10 yX10_clique wsX10_clique) := goodIn_app (goodIn_of _ (by decide +kernel)) ggX10_against_X10_clique
theorem dX10_against_0 : decode cX10_against 0 = .ok (.aload_n 0, 1) := by decide +kernel
theorem dX10_against_1 : decode cX10_against 1 = .ok (.iconst 0, 1) := by decide +kernel
theorem dX10_against_2 : decode cX10_against 2 = .ok (.aload_n 0, 1) := by decide +kernel
theorem dX10_against_3 : decode cX10_against 3 = .ok (.getfield 7, 3) := by decide +kernel
theorem dX10_against_6 : decode cX10_against 6 = .ok (.iconst 1, 1) := by decide +kernel
theorem dX10_against_7 : decode cX10_against 7 = .ok (.iaload, 1) := by decide +kernel
theorem dX10_against_8 : decode cX10_against 8 = .ok (.invokevirtual 83, 3) := by decide +kernel
theorem dX10_against_11 : decode cX10_against 11 = .ok (.iconst 0, 1) := by decide +kernel
theorem dX10_against_12 : decode cX10_against 12 = .ok (.istore_n 3, 1) := by decide +kernel
theorem dX10_against_13 : decode cX10_against 13 = .ok (.iconst 0, 1) := by decide +kernel
theorem dX10_against_14 : decode cX10_against 14 = .ok (.istore 4, 2) := by decide +kernel
theorem dX10_against_16 : decode cX10_against 16 = .ok (.iload 4, 2) := by decide +kernel
theorem dX10_against_18 : decode cX10_against 18 = .ok (.aload_n 0, 1) := by decide +kernel
theorem dX10_against_19 : decode cX10_against 19 = .ok (.getfield 7, 3) := by decide +kernel
theorem dX10_against_22 : decode cX10_against 22 = .ok (.iconst 0, 1) := by decide +kernel
theorem dX10_against_23 : decode cX10_against 23 = .ok (.iaload, 1) := by decide +kernel
theorem dX10_against_24 : decode cX10_against 24 = .ok (.if_icmp .ge 26, 3) := by decide +kernel
theorem dX10_against_27 : decode cX10_against 27 = .ok (.iload_n 3, 1) := by decide +kernel
theorem dX10_against_28 : decode cX10_against 28 = .ok (.aload_n 0, 1) := by decide +kernel
theorem dX10_against_29 : decode cX10_against 29 = .ok (.getfield 22, 3) := by decide +kernel
theorem dX10_against_32 : decode cX10_against 32 = .ok (.iload 4, 2) := by decide +kernel
theorem dX10_against_34 : decode cX10_against 34 = .ok (.iaload, 1) := by decide +kernel
theorem dX10_against_35 : decode cX10_against 35 = .ok (.iload_n 2, 1) := by decide +kernel
theorem dX10_against_36 : decode cX10_against 36 = .ok (.ishr, 1) := by decide +kernel
theorem dX10_against_37 : decode cX10_against 37 = .ok (.iconst 1, 1) := by decide +kernel
theorem dX10_against_38 : decode cX10_against 38 = .ok (.iand, 1) := by decide +kernel
theorem dX10_against_39 : decode cX10_against 39 = .ok (.iload 4, 2) := by decide +kernel
theorem dX10_against_41 : decode cX10_against 41 = .ok (.ishl, 1) := by decide +kernel
theorem dX10_against_42 : decode cX10_against 42 = .ok (.ior, 1) := by decide +kernel
theorem dX10_against_43 : decode cX10_against 43 = .ok (.istore_n 3, 1) := by decide +kernel
theorem dX10_against_44 : decode cX10_against 44 = .ok (.iinc 4 1, 3) := by decide +kernel
theorem dX10_against_47 : decode cX10_against 47 = .ok (.goto (-31), 3) := by decide +kernel
theorem dX10_against_50 : decode cX10_against 50 = .ok (.aload_n 0, 1) := by decide +kernel
theorem dX10_against_51 : decode cX10_against 51 = .ok (.invokevirtual 87, 3) := by decide +kernel
theorem dX10_against_54 : decode cX10_against 54 = .ok (.iload_n 3, 1) := by decide +kernel
theorem dX10_against_55 : decode cX10_against 55 = .ok (.iconst (-1), 1) := by decide +kernel
theorem dX10_against_56 : decode cX10_against 56 = .ok (.ixor, 1) := by decide +kernel
theorem dX10_against_57 : decode cX10_against 57 = .ok (.iand, 1) := by decide +kernel
theorem dX10_against_58 : decode cX10_against 58 = .ok (.istore 4, 2) := by decide +kernel
theorem dX10_against_60 : decode cX10_against 60 = .ok (.iload 4, 2) := by decide +kernel
theorem dX10_against_62 : decode cX10_against 62 = .ok (.ifCond .ne 7, 3) := by decide +kernel
theorem dX10_against_65 : decode cX10_against 65 = .ok (.iconst 0, 1) := by decide +kernel
theorem dX10_against_66 : decode cX10_against 66 = .ok (.goto 15, 3) := by decide +kernel
theorem dX10_against_69 : decode cX10_against 69 = .ok (.iload_n 3, 1) := by decide +kernel
theorem dX10_against_70 : decode cX10_against 70 = .ok (.invokestatic 91, 3) := by decide +kernel
theorem dX10_against_73 : decode cX10_against 73 = .ok (.iload 4, 2) := by decide +kernel
theorem dX10_against_75 : decode cX10_against 75 = .ok (.invokestatic 94, 3) := by decide +kernel
theorem dX10_against_78 : decode cX10_against 78 = .ok (.invokestatic 76, 3) := by decide +kernel
theorem dX10_against_81 : decode cX10_against 81 = .ok (.istore 5, 2) := by decide +kernel
theorem dX10_against_83 : decode cX10_against 83 = .ok (.iload_n 1, 1) := by decide +kernel
theorem dX10_against_84 : decode cX10_against 84 = .ok (.ifCond .ne 19, 3) := by decide +kernel
theorem dX10_against_87 : decode cX10_against 87 = .ok (.aload_n 0, 1) := by decide +kernel
theorem dX10_against_88 : decode cX10_against 88 = .ok (.iload_n 3, 1) := by decide +kernel
theorem dX10_against_89 : decode cX10_against 89 = .ok (.invokevirtual 97, 3) := by decide +kernel
theorem dX10_against_92 : decode cX10_against 92 = .ok (.iload 5, 2) := by decide +kernel
theorem dX10_against_94 : decode cX10_against 94 = .ok (.ior, 1) := by decide +kernel
theorem dX10_against_95 : decode cX10_against 95 = .ok (.aload_n 0, 1) := by decide +kernel
theorem dX10_against_96 : decode cX10_against 96 = .ok (.iload 4, 2) := by decide +kernel
theorem dX10_against_98 : decode cX10_against 98 = .ok (.invokevirtual 97, 3) := by decide +kernel
theorem dX10_against_101 : decode cX10_against 101 = .ok (.ior, 1) := by decide +kernel
theorem dX10_against_102 : decode cX10_against 102 = .ok (.ireturn, 1) := by decide +kernel
theorem dX10_against_103 : decode cX10_against 103 = .ok (.iload_n 1, 1) := by decide +kernel
theorem dX10_against_104 : decode cX10_against 104 = .ok (.iconst 1, 1) := by decide +kernel
theorem dX10_against_105 : decode cX10_against 105 = .ok (.if_icmp .ne 22, 3) := by decide +kernel
theorem dX10_against_108 : decode cX10_against 108 = .ok (.aload_n 0, 1) := by decide +kernel
theorem dX10_against_109 : decode cX10_against 109 = .ok (.iload 4, 2) := by decide +kernel
theorem dX10_against_111 : decode cX10_against 111 = .ok (.ifCond .ne 7, 3) := by decide +kernel
theorem dX10_against_114 : decode cX10_against 114 = .ok (.iload_n 2, 1) := by decide +kernel
theorem dX10_against_115 : decode cX10_against 115 = .ok (.goto 8, 3) := by decide +kernel
theorem dX10_against_118 : decode cX10_against 118 = .ok (.iload 4, 2) := by decide +kernel
theorem dX10_against_120 : decode cX10_against 120 = .ok (.invokestatic 94, 3) := by decide +kernel
theorem dX10_against_123 : decode cX10_against 123 = .ok (.invokevirtual 100, 3) := by decide +kernel
theorem dX10_against_126 : decode cX10_against 126 = .ok (.ireturn, 1) := by decide +kernel
theorem dX10_against_127 : decode cX10_against 127 = .ok (.aload_n 0, 1) := by decide +kernel
theorem dX10_against_128 : decode cX10_against 128 = .ok (.iload_n 3, 1) := by decide +kernel
theorem dX10_against_129 : decode cX10_against 129 = .ok (.invokevirtual 103, 3) := by decide +kernel
theorem dX10_against_132 : decode cX10_against 132 = .ok (.aload_n 0, 1) := by decide +kernel
theorem dX10_against_133 : decode cX10_against 133 = .ok (.iload 4, 2) := by decide +kernel
theorem dX10_against_135 : decode cX10_against 135 = .ok (.invokevirtual 103, 3) := by decide +kernel
theorem dX10_against_138 : decode cX10_against 138 = .ok (.ior, 1) := by decide +kernel
theorem dX10_against_139 : decode cX10_against 139 = .ok (.iload 5, 2) := by decide +kernel
theorem dX10_against_141 : decode cX10_against 141 = .ok (.ior, 1) := by decide +kernel
theorem dX10_against_142 : decode cX10_against 142 = .ok (.ireturn, 1) := by decide +kernel
set_option maxRecDepth 20000 in
theorem ggX10_addAdversary_X10_in : GoodIn wsX10_addAdversary wsX10_in := goodIn_r _ [5] (by decide +kernel) (by decide +kernel)
set_option maxRecDepth 20000 in
theorem gX10_addAdversary_X10_in : GoodIn wsX10_addAdversary (va_wsS RX10 51 yX10_in wsX10_in) := goodIn_app (goodIn_of _ (by decide +kernel)) ggX10_addAdversary_X10_in
set_option maxRecDepth 20000 in
theorem ggX10_addAdversary_X10_isNode : GoodIn wsX10_addAdversary wsX10_isNode := goodIn_r _ [9, 1, 2, 3, 4, 5, 75, 76, 77, 78, 79, 80, 81, 82, 83, 84, 85, 86, 87, 88, 89, 90, 91, 92, 93] (by decide +kernel) (by decide +kernel)
set_option maxRecDepth 20000 in
theorem gX10_addAdversary_X10_isNode : GoodIn wsX10_addAdversary (wsV RX10 55 RX10 yX10_isNode wsX10_isNode) := goodIn_app (goodIn_of _ (by decide +kernel)) ggX10_addAdversary_X10_isNode
set_option maxRecDepth 20000 in
theorem ggX10_addAdversary_X10_hold : GoodIn wsX10_addAdversary wsX10_hold := goodIn_r _ [13, 14, 1, 75, 76, 77, 78, 79, 80, 81, 82, 83, 84, 85, 86, 87, 88, 89, 90, 91, 92, 93] (by decide +kernel) (by decide +kernel)
set_option maxRecDepth 20000 in
theorem gX10_addAdversary_X10_hold : GoodIn wsX10_addAdversary (wsV RX10 59 RX10 yX10_hold wsX10_hold) := goodIn_app (goodIn_of _ (by decide +kernel)) ggX10_addAdversary_X10_hold
set_option maxRecDepth 20000 in
theorem ggX10_addAdversary_X10_against : GoodIn wsX10_addAdversary wsX10_against := goodIn_r _ [18, 1, 19, 20, 21, 22, 4, 23, 24, 25, 26, 27, 28, 29, 30, 31, 32, 33, 34, 35, 36, 37, 38, 39, 40, 41, 42, 43, 44, 45, 46, 47, 48, 49, 50, 51, 52, 53, 54, 55, 56, 57, 58, 59, 60, 61, 75, 76, 77, 78, 79, 80, 81, 82, 83, 84, 85, 86, 87, 88, 89, 90, 91, 92, 93] (by decide +kernel) (by decide +kernel)
set_option maxRecDepth 20000 in
theorem gX10_addAdversary_X10_against : GoodIn wsX10_addAdversary (wsV RX10 106 RX10 yX10_against wsX10_against) := goodIn_app (goodIn_of _ (by decide +kernel)) ggX10_addAdversary_X10_against
set_option maxRecDepth 20000 in
theorem ggX10_addAdversary_X10_adds : GoodIn wsX10_addAdversary wsX10_adds := goodIn_r _ [65, 1, 75, 76, 77, 78, 79, 80, 81, 82, 83, 84, 85, 86, 87, 88, 89, 90, 91, 92, 93] (by decide +kernel) (by decide +kernel)
set_option maxRecDepth 20000 in
theorem gX10_addAdversary_X10_adds : GoodIn wsX10_addAdversary (wsV RX10 66 RX10 yX10_adds wsX10_adds) := goodIn_app (goodIn_of _ (by decide +kernel)) ggX10_addAdversary_X10_adds
set_option maxRecDepth 20000 in
theorem ggX10_addAdversary_X10_size : GoodIn wsX10_addAdversary wsX10_size := goodIn_r _ [68] (by decide +kernel) (by decide +kernel)
set_option maxRecDepth 20000 in
theorem gX10_addAdversary_X10_size : GoodIn wsX10_addAdversary (va_wsS RX10 80 yX10_size wsX10_size) := goodIn_app (goodIn_of _ (by decide +kernel)) ggX10_addAdversary_X10_size
set_option maxRecDepth 20000 in
theorem ggX10_addAdversary_X10_ends : GoodIn wsX10_addAdversary wsX10_ends := goodIn_r _ [72, 73, 74, 14, 75, 76, 77, 78, 79, 80, 81, 82, 83, 84, 85, 86, 87, 88, 89, 90, 91, 92, 93] (by decide +kernel) (by decide +kernel)
set_option maxRecDepth 20000 in
theorem gX10_addAdversary_X10_ends : GoodIn wsX10_addAdversary (wsV RX10 62 RX10 yX10_ends wsX10_ends) := goodIn_app (goodIn_of _ (by decide +kernel)) ggX10_addAdversary_X10_ends
theorem dX10_addAdversary_0 : decode cX10_addAdversary 0 = .ok (.iload_n 1, 1) := by decide +kernel
theorem dX10_addAdversary_1 : decode cX10_addAdversary 1 = .ok (.iconst 0, 1) := by decide +kernel
theorem dX10_addAdversary_2 : decode cX10_addAdversary 2 = .ok (.iconst 2, 1) := by decide +kernel
theorem dX10_addAdversary_3 : decode cX10_addAdversary 3 = .ok (.invokestatic 51, 3) := by decide +kernel
theorem dX10_addAdversary_6 : decode cX10_addAdversary 6 = .ok (.ifCond .eq 11, 3) := by decide +kernel
theorem dX10_addAdversary_9 : decode cX10_addAdversary 9 = .ok (.aload_n 0, 1) := by decide +kernel
theorem dX10_addAdversary_10 : decode cX10_addAdversary 10 = .ok (.iload_n 2, 1) := by decide +kernel
theorem dX10_addAdversary_11 : decode cX10_addAdversary 11 = .ok (.invokevirtual 55, 3) := by decide +kernel
theorem dX10_addAdversary_14 : decode cX10_addAdversary 14 = .ok (.ifCond .ne 5, 3) := by decide +kernel
theorem dX10_addAdversary_17 : decode cX10_addAdversary 17 = .ok (.iconst (-1), 1) := by decide +kernel
theorem dX10_addAdversary_18 : decode cX10_addAdversary 18 = .ok (.ireturn, 1) := by decide +kernel
theorem dX10_addAdversary_19 : decode cX10_addAdversary 19 = .ok (.aload_n 0, 1) := by decide +kernel
theorem dX10_addAdversary_20 : decode cX10_addAdversary 20 = .ok (.getfield 7, 3) := by decide +kernel
theorem dX10_addAdversary_23 : decode cX10_addAdversary 23 = .ok (.iconst 1, 1) := by decide +kernel
theorem dX10_addAdversary_24 : decode cX10_addAdversary 24 = .ok (.iaload, 1) := by decide +kernel
theorem dX10_addAdversary_25 : decode cX10_addAdversary 25 = .ok (.bipush 16, 2) := by decide +kernel
theorem dX10_addAdversary_27 : decode cX10_addAdversary 27 = .ok (.if_icmp .ne 6, 3) := by decide +kernel
theorem dX10_addAdversary_30 : decode cX10_addAdversary 30 = .ok (.bipush (-3), 2) := by decide +kernel
theorem dX10_addAdversary_32 : decode cX10_addAdversary 32 = .ok (.ireturn, 1) := by decide +kernel
theorem dX10_addAdversary_33 : decode cX10_addAdversary 33 = .ok (.aload_n 0, 1) := by decide +kernel
theorem dX10_addAdversary_34 : decode cX10_addAdversary 34 = .ok (.invokevirtual 59, 3) := by decide +kernel
theorem dX10_addAdversary_37 : decode cX10_addAdversary 37 = .ok (.aload_n 0, 1) := by decide +kernel
theorem dX10_addAdversary_38 : decode cX10_addAdversary 38 = .ok (.iload_n 1, 1) := by decide +kernel
theorem dX10_addAdversary_39 : decode cX10_addAdversary 39 = .ok (.iload_n 2, 1) := by decide +kernel
theorem dX10_addAdversary_40 : decode cX10_addAdversary 40 = .ok (.invokevirtual 106, 3) := by decide +kernel
theorem dX10_addAdversary_43 : decode cX10_addAdversary 43 = .ok (.istore_n 3, 1) := by decide +kernel
theorem dX10_addAdversary_44 : decode cX10_addAdversary 44 = .ok (.aload_n 0, 1) := by decide +kernel
theorem dX10_addAdversary_45 : decode cX10_addAdversary 45 = .ok (.iload_n 3, 1) := by decide +kernel
theorem dX10_addAdversary_46 : decode cX10_addAdversary 46 = .ok (.invokevirtual 66, 3) := by decide +kernel
theorem dX10_addAdversary_49 : decode cX10_addAdversary 49 = .ok (.aload_n 0, 1) := by decide +kernel
theorem dX10_addAdversary_50 : decode cX10_addAdversary 50 = .ok (.iload_n 3, 1) := by decide +kernel
theorem dX10_addAdversary_51 : decode cX10_addAdversary 51 = .ok (.invokestatic 80, 3) := by decide +kernel
theorem dX10_addAdversary_54 : decode cX10_addAdversary 54 = .ok (.invokevirtual 62, 3) := by decide +kernel
theorem dX10_addAdversary_57 : decode cX10_addAdversary 57 = .ok (.ireturn, 1) := by decide +kernel
set_option maxRecDepth 20000 in
theorem ggX10_setValue_X10_isNode : GoodIn wsX10_setValue wsX10_isNode := goodIn_r _ [6, 1, 7, 8, 5, 9, 21, 22, 23, 24, 25, 26, 27, 28, 29, 30, 31, 32, 33, 34, 35, 36, 37, 38, 39] (by decide +kernel) (by decide +kernel)
set_option maxRecDepth 20000 in
theorem gX10_setValue_X10_isNode : GoodIn wsX10_setValue (wsV RX10 55 RX10 yX10_isNode wsX10_isNode) := goodIn_app (goodIn_of _ (by decide +kernel)) ggX10_setValue_X10_isNode
set_option maxRecDepth 20000 in
theorem ggX10_setValue_X10_in : GoodIn wsX10_setValue wsX10_in := goodIn_r _ [9] (by decide +kernel) (by decide +kernel)
set_option maxRecDepth 20000 in
theorem gX10_setValue_X10_in : GoodIn wsX10_setValue (va_wsS RX10 51 yX10_in wsX10_in) := goodIn_app (goodIn_of _ (by decide +kernel)) ggX10_setValue_X10_in
set_option maxRecDepth 20000 in
theorem ggX10_setValue_X10_hold : GoodIn wsX10_setValue wsX10_hold := goodIn_r _ [13, 14, 1, 21, 22, 23, 24, 25, 26, 27, 28, 29, 30, 31, 32, 33, 34, 35, 36, 37, 38, 39] (by decide +kernel) (by decide +kernel)
set_option maxRecDepth 20000 in
theorem gX10_setValue_X10_hold : GoodIn wsX10_setValue (wsV RX10 59 RX10 yX10_hold wsX10_hold) := goodIn_app (goodIn_of _ (by decide +kernel)) ggX10_setValue_X10_hold
set_option maxRecDepth 20000 in
theorem ggX10_setValue_X10_ends : GoodIn wsX10_setValue wsX10_ends := goodIn_r _ [18, 19, 20, 14, 21, 22, 23, 24, 25, 26, 27, 28, 29, 30, 31, 32, 33, 34, 35, 36, 37, 38, 39] (by decide +kernel) (by decide +kernel)
set_option maxRecDepth 20000 in
theorem gX10_setValue_X10_ends : GoodIn wsX10_setValue (wsV RX10 62 RX10 yX10_ends wsX10_ends) := goodIn_app (goodIn_of _ (by decide +kernel)) ggX10_setValue_X10_ends
theorem dX10_setValue_0 : decode cX10_setValue 0 = .ok (.aload_n 0, 1) := by decide +kernel
theorem dX10_setValue_1 : decode cX10_setValue 1 = .ok (.iload_n 1, 1) := by decide +kernel
theorem dX10_setValue_2 : decode cX10_setValue 2 = .ok (.invokevirtual 55, 3) := by decide +kernel
theorem dX10_setValue_5 : decode cX10_setValue 5 = .ok (.ifCond .eq 13, 3) := by decide +kernel
theorem dX10_setValue_8 : decode cX10_setValue 8 = .ok (.iload_n 2, 1) := by decide +kernel
theorem dX10_setValue_9 : decode cX10_setValue 9 = .ok (.iconst 0, 1) := by decide +kernel
theorem dX10_setValue_10 : decode cX10_setValue 10 = .ok (.bipush 99, 2) := by decide +kernel
theorem dX10_setValue_12 : decode cX10_setValue 12 = .ok (.invokestatic 51, 3) := by decide +kernel
theorem dX10_setValue_15 : decode cX10_setValue 15 = .ok (.ifCond .ne 5, 3) := by decide +kernel
theorem dX10_setValue_18 : decode cX10_setValue 18 = .ok (.iconst (-1), 1) := by decide +kernel
theorem dX10_setValue_19 : decode cX10_setValue 19 = .ok (.ireturn, 1) := by decide +kernel
theorem dX10_setValue_20 : decode cX10_setValue 20 = .ok (.aload_n 0, 1) := by decide +kernel
theorem dX10_setValue_21 : decode cX10_setValue 21 = .ok (.invokevirtual 59, 3) := by decide +kernel
theorem dX10_setValue_24 : decode cX10_setValue 24 = .ok (.aload_n 0, 1) := by decide +kernel
theorem dX10_setValue_25 : decode cX10_setValue 25 = .ok (.getfield 7, 3) := by decide +kernel
theorem dX10_setValue_28 : decode cX10_setValue 28 = .ok (.bipush 18, 2) := by decide +kernel
theorem dX10_setValue_30 : decode cX10_setValue 30 = .ok (.iload_n 1, 1) := by decide +kernel
theorem dX10_setValue_31 : decode cX10_setValue 31 = .ok (.iadd, 1) := by decide +kernel
theorem dX10_setValue_32 : decode cX10_setValue 32 = .ok (.iaload, 1) := by decide +kernel
theorem dX10_setValue_33 : decode cX10_setValue 33 = .ok (.istore_n 3, 1) := by decide +kernel
theorem dX10_setValue_34 : decode cX10_setValue 34 = .ok (.aload_n 0, 1) := by decide +kernel
theorem dX10_setValue_35 : decode cX10_setValue 35 = .ok (.getfield 7, 3) := by decide +kernel
theorem dX10_setValue_38 : decode cX10_setValue 38 = .ok (.bipush 18, 2) := by decide +kernel
theorem dX10_setValue_40 : decode cX10_setValue 40 = .ok (.iload_n 1, 1) := by decide +kernel
theorem dX10_setValue_41 : decode cX10_setValue 41 = .ok (.iadd, 1) := by decide +kernel
theorem dX10_setValue_42 : decode cX10_setValue 42 = .ok (.iload_n 2, 1) := by decide +kernel
theorem dX10_setValue_43 : decode cX10_setValue 43 = .ok (.iastore, 1) := by decide +kernel
theorem dX10_setValue_44 : decode cX10_setValue 44 = .ok (.aload_n 0, 1) := by decide +kernel
theorem dX10_setValue_45 : decode cX10_setValue 45 = .ok (.iload_n 3, 1) := by decide +kernel
theorem dX10_setValue_46 : decode cX10_setValue 46 = .ok (.invokevirtual 62, 3) := by decide +kernel
theorem dX10_setValue_49 : decode cX10_setValue 49 = .ok (.ireturn, 1) := by decide +kernel
set_option maxRecDepth 20000 in
theorem ggX10_edge_X10_isRound : GoodIn wsX10_edge wsX10_isRound := goodIn_r _ [6, 1, 7, 8, 5, 9, 21, 22, 23, 24, 25, 26, 27, 28, 29, 30, 31, 32, 33, 34, 35, 36, 37, 38, 39] (by decide +kernel) (by decide +kernel)
set_option maxRecDepth 20000 in
theorem gX10_edge_X10_isRound : GoodIn wsX10_edge (wsV RX10 69 RX10 yX10_isRound wsX10_isRound) := goodIn_app (goodIn_of _ (by decide +kernel)) ggX10_edge_X10_isRound
set_option maxRecDepth 20000 in
theorem ggX10_edge_X10_isPair : GoodIn wsX10_edge wsX10_isPair := goodIn_r _ [13, 14, 15, 16, 5, 17, 1, 7, 8, 9, 21, 22, 23, 24, 25, 26, 27, 28, 29, 30, 31, 32, 33, 34, 35, 36, 37, 38, 39] (by decide +kernel) (by decide +kernel)
set_option maxRecDepth 20000 in
theorem gX10_edge_X10_isPair : GoodIn wsX10_edge (wsV RX10 72 RX10 yX10_isPair wsX10_isPair) := goodIn_app (goodIn_of _ (by decide +kernel)) ggX10_edge_X10_isPair
set_option maxRecDepth 20000 in
theorem ggX10_edge_X10_pair : GoodIn wsX10_edge wsX10_pair := goodIn_r _ [20] (by decide +kernel) (by decide +kernel)
set_option maxRecDepth 20000 in
theorem gX10_edge_X10_pair : GoodIn wsX10_edge (va_wsS RX10 76 yX10_pair wsX10_pair) := goodIn_app (goodIn_of _ (by decide +kernel)) ggX10_edge_X10_pair
theorem dX10_edge_0 : decode cX10_edge 0 = .ok (.aload_n 0, 1) := by decide +kernel
theorem dX10_edge_1 : decode cX10_edge 1 = .ok (.iload_n 1, 1) := by decide +kernel
theorem dX10_edge_2 : decode cX10_edge 2 = .ok (.invokevirtual 69, 3) := by decide +kernel
theorem dX10_edge_5 : decode cX10_edge 5 = .ok (.ifCond .eq 12, 3) := by decide +kernel
theorem dX10_edge_8 : decode cX10_edge 8 = .ok (.aload_n 0, 1) := by decide +kernel
theorem dX10_edge_9 : decode cX10_edge 9 = .ok (.iload_n 2, 1) := by decide +kernel
theorem dX10_edge_10 : decode cX10_edge 10 = .ok (.iload_n 3, 1) := by decide +kernel
theorem dX10_edge_11 : decode cX10_edge 11 = .ok (.invokevirtual 72, 3) := by decide +kernel
theorem dX10_edge_14 : decode cX10_edge 14 = .ok (.ifCond .ne 5, 3) := by decide +kernel
theorem dX10_edge_17 : decode cX10_edge 17 = .ok (.iconst (-1), 1) := by decide +kernel
theorem dX10_edge_18 : decode cX10_edge 18 = .ok (.ireturn, 1) := by decide +kernel
theorem dX10_edge_19 : decode cX10_edge 19 = .ok (.aload_n 0, 1) := by decide +kernel
theorem dX10_edge_20 : decode cX10_edge 20 = .ok (.getfield 7, 3) := by decide +kernel
theorem dX10_edge_23 : decode cX10_edge 23 = .ok (.iconst 2, 1) := by decide +kernel
theorem dX10_edge_24 : decode cX10_edge 24 = .ok (.iload_n 1, 1) := by decide +kernel
theorem dX10_edge_25 : decode cX10_edge 25 = .ok (.iadd, 1) := by decide +kernel
theorem dX10_edge_26 : decode cX10_edge 26 = .ok (.iaload, 1) := by decide +kernel
theorem dX10_edge_27 : decode cX10_edge 27 = .ok (.iload_n 2, 1) := by decide +kernel
theorem dX10_edge_28 : decode cX10_edge 28 = .ok (.iload_n 3, 1) := by decide +kernel
theorem dX10_edge_29 : decode cX10_edge 29 = .ok (.invokestatic 76, 3) := by decide +kernel
theorem dX10_edge_32 : decode cX10_edge 32 = .ok (.iand, 1) := by decide +kernel
theorem dX10_edge_33 : decode cX10_edge 33 = .ok (.ifCond .eq 7, 3) := by decide +kernel
theorem dX10_edge_36 : decode cX10_edge 36 = .ok (.iconst 1, 1) := by decide +kernel
theorem dX10_edge_37 : decode cX10_edge 37 = .ok (.goto 4, 3) := by decide +kernel
theorem dX10_edge_40 : decode cX10_edge 40 = .ok (.iconst 0, 1) := by decide +kernel
theorem dX10_edge_41 : decode cX10_edge 41 = .ok (.ireturn, 1) := by decide +kernel
set_option maxRecDepth 20000 in
theorem ggX10_sumOf_X10_size : GoodIn wsX10_sumOf wsX10_size := goodIn_r _ [5] (by decide +kernel) (by decide +kernel)
set_option maxRecDepth 20000 in
theorem gX10_sumOf_X10_size : GoodIn wsX10_sumOf (va_wsS RX10 80 yX10_size wsX10_size) := goodIn_app (goodIn_of _ (by decide +kernel)) ggX10_sumOf_X10_size
set_option maxRecDepth 20000 in
theorem ggX10_sumOf_X10_isConnected : GoodIn wsX10_sumOf wsX10_isConnected := goodIn_r _ [9, 10, 11, 12, 4, 13, 1, 14, 15, 16, 17, 18, 19, 20, 21, 22, 23, 24, 25, 26, 27, 28, 29, 30, 31, 32, 33, 34, 35, 36, 37, 38, 39, 40, 41, 42, 43] (by decide +kernel) (by decide +kernel)
set_option maxRecDepth 20000 in
theorem gX10_sumOf_X10_isConnected : GoodIn wsX10_sumOf (wsV RX10 109 RX10 yX10_isConnected wsX10_isConnected) := goodIn_app (goodIn_of _ (by decide +kernel)) ggX10_sumOf_X10_isConnected
theorem dX10_sumOf_0 : decode cX10_sumOf 0 = .ok (.iconst 0, 1) := by decide +kernel
theorem dX10_sumOf_1 : decode cX10_sumOf 1 = .ok (.istore_n 2, 1) := by decide +kernel
theorem dX10_sumOf_2 : decode cX10_sumOf 2 = .ok (.iconst 0, 1) := by decide +kernel
theorem dX10_sumOf_3 : decode cX10_sumOf 3 = .ok (.istore_n 3, 1) := by decide +kernel
theorem dX10_sumOf_4 : decode cX10_sumOf 4 = .ok (.iload_n 3, 1) := by decide +kernel
theorem dX10_sumOf_5 : decode cX10_sumOf 5 = .ok (.aload_n 0, 1) := by decide +kernel
theorem dX10_sumOf_6 : decode cX10_sumOf 6 = .ok (.getfield 7, 3) := by decide +kernel
theorem dX10_sumOf_9 : decode cX10_sumOf 9 = .ok (.iconst 1, 1) := by decide +kernel
theorem dX10_sumOf_10 : decode cX10_sumOf 10 = .ok (.iaload, 1) := by decide +kernel
theorem dX10_sumOf_11 : decode cX10_sumOf 11 = .ok (.if_icmp .ge 50, 3) := by decide +kernel
theorem dX10_sumOf_14 : decode cX10_sumOf 14 = .ok (.iload_n 2, 1) := by decide +kernel
theorem dX10_sumOf_15 : decode cX10_sumOf 15 = .ok (.iload_n 1, 1) := by decide +kernel
theorem dX10_sumOf_16 : decode cX10_sumOf 16 = .ok (.ifCond .ne 17, 3) := by decide +kernel
theorem dX10_sumOf_19 : decode cX10_sumOf 19 = .ok (.aload_n 0, 1) := by decide +kernel
theorem dX10_sumOf_20 : decode cX10_sumOf 20 = .ok (.getfield 7, 3) := by decide +kernel
theorem dX10_sumOf_23 : decode cX10_sumOf 23 = .ok (.iconst 2, 1) := by decide +kernel
theorem dX10_sumOf_24 : decode cX10_sumOf 24 = .ok (.iload_n 3, 1) := by decide +kernel
theorem dX10_sumOf_25 : decode cX10_sumOf 25 = .ok (.iadd, 1) := by decide +kernel
theorem dX10_sumOf_26 : decode cX10_sumOf 26 = .ok (.iaload, 1) := by decide +kernel
theorem dX10_sumOf_27 : decode cX10_sumOf 27 = .ok (.invokestatic 80, 3) := by decide +kernel
theorem dX10_sumOf_30 : decode cX10_sumOf 30 = .ok (.goto 23, 3) := by decide +kernel
theorem dX10_sumOf_33 : decode cX10_sumOf 33 = .ok (.aload_n 0, 1) := by decide +kernel
theorem dX10_sumOf_34 : decode cX10_sumOf 34 = .ok (.aload_n 0, 1) := by decide +kernel
theorem dX10_sumOf_35 : decode cX10_sumOf 35 = .ok (.getfield 7, 3) := by decide +kernel
theorem dX10_sumOf_38 : decode cX10_sumOf 38 = .ok (.iconst 2, 1) := by decide +kernel
theorem dX10_sumOf_39 : decode cX10_sumOf 39 = .ok (.iload_n 3, 1) := by decide +kernel
theorem dX10_sumOf_40 : decode cX10_sumOf 40 = .ok (.iadd, 1) := by decide +kernel
theorem dX10_sumOf_41 : decode cX10_sumOf 41 = .ok (.iaload, 1) := by decide +kernel
theorem dX10_sumOf_42 : decode cX10_sumOf 42 = .ok (.invokevirtual 109, 3) := by decide +kernel
theorem dX10_sumOf_45 : decode cX10_sumOf 45 = .ok (.ifCond .eq 7, 3) := by decide +kernel
theorem dX10_sumOf_48 : decode cX10_sumOf 48 = .ok (.iconst 1, 1) := by decide +kernel
theorem dX10_sumOf_49 : decode cX10_sumOf 49 = .ok (.goto 4, 3) := by decide +kernel
theorem dX10_sumOf_52 : decode cX10_sumOf 52 = .ok (.iconst 0, 1) := by decide +kernel
theorem dX10_sumOf_53 : decode cX10_sumOf 53 = .ok (.iadd, 1) := by decide +kernel
theorem dX10_sumOf_54 : decode cX10_sumOf 54 = .ok (.istore_n 2, 1) := by decide +kernel
theorem dX10_sumOf_55 : decode cX10_sumOf 55 = .ok (.iinc 3 1, 3) := by decide +kernel
theorem dX10_sumOf_58 : decode cX10_sumOf 58 = .ok (.goto (-54), 3) := by decide +kernel
theorem dX10_sumOf_61 : decode cX10_sumOf 61 = .ok (.iload_n 2, 1) := by decide +kernel
theorem dX10_sumOf_62 : decode cX10_sumOf 62 = .ok (.ireturn, 1) := by decide +kernel
set_option maxRecDepth 20000 in
theorem ggX10_count_X10_sumOf : GoodIn wsX10_count wsX10_sumOf := goodIn_r _ [8, 1, 9, 10, 7, 11, 12, 13, 14, 15, 16, 17, 18, 19, 20, 21, 22, 23, 24, 25, 26, 27, 28, 29, 30, 31, 32, 33, 34, 35, 36, 37, 38, 39, 40, 41, 42, 43, 44, 45, 46, 47, 48, 49] (by decide +kernel) (by decide +kernel)
set_option maxRecDepth 20000 in
theorem gX10_count_X10_sumOf : GoodIn wsX10_count (wsV RX10 112 RX10 yX10_sumOf wsX10_sumOf) := goodIn_app (goodIn_of _ (by decide +kernel)) ggX10_count_X10_sumOf
theorem dX10_count_0 : decode cX10_count 0 = .ok (.iload_n 1, 1) := by decide +kernel
theorem dX10_count_1 : decode cX10_count 1 = .ok (.tableswitch 75 0 5 #[39, 46, 53, 59, 65, 70], 39) := by decide +kernel
theorem dX10_count_40 : decode cX10_count 40 = .ok (.aload_n 0, 1) := by decide +kernel
theorem dX10_count_41 : decode cX10_count 41 = .ok (.getfield 7, 3) := by decide +kernel
theorem dX10_count_44 : decode cX10_count 44 = .ok (.iconst 0, 1) := by decide +kernel
theorem dX10_count_45 : decode cX10_count 45 = .ok (.iaload, 1) := by decide +kernel
theorem dX10_count_46 : decode cX10_count 46 = .ok (.ireturn, 1) := by decide +kernel
theorem dX10_count_47 : decode cX10_count 47 = .ok (.aload_n 0, 1) := by decide +kernel
theorem dX10_count_48 : decode cX10_count 48 = .ok (.getfield 7, 3) := by decide +kernel
theorem dX10_count_51 : decode cX10_count 51 = .ok (.iconst 1, 1) := by decide +kernel
theorem dX10_count_52 : decode cX10_count 52 = .ok (.iaload, 1) := by decide +kernel
theorem dX10_count_53 : decode cX10_count 53 = .ok (.ireturn, 1) := by decide +kernel
theorem dX10_count_54 : decode cX10_count 54 = .ok (.aload_n 0, 1) := by decide +kernel
theorem dX10_count_55 : decode cX10_count 55 = .ok (.iconst 0, 1) := by decide +kernel
theorem dX10_count_56 : decode cX10_count 56 = .ok (.invokevirtual 112, 3) := by decide +kernel
theorem dX10_count_59 : decode cX10_count 59 = .ok (.ireturn, 1) := by decide +kernel
theorem dX10_count_60 : decode cX10_count 60 = .ok (.aload_n 0, 1) := by decide +kernel
theorem dX10_count_61 : decode cX10_count 61 = .ok (.iconst 1, 1) := by decide +kernel
theorem dX10_count_62 : decode cX10_count 62 = .ok (.invokevirtual 112, 3) := by decide +kernel
theorem dX10_count_65 : decode cX10_count 65 = .ok (.ireturn, 1) := by decide +kernel
theorem dX10_count_66 : decode cX10_count 66 = .ok (.aload_n 0, 1) := by decide +kernel
theorem dX10_count_67 : decode cX10_count 67 = .ok (.getfield 115, 3) := by decide +kernel
theorem dX10_count_70 : decode cX10_count 70 = .ok (.ireturn, 1) := by decide +kernel
theorem dX10_count_71 : decode cX10_count 71 = .ok (.aload_n 0, 1) := by decide +kernel
theorem dX10_count_72 : decode cX10_count 72 = .ok (.getfield 47, 3) := by decide +kernel
theorem dX10_count_75 : decode cX10_count 75 = .ok (.ireturn, 1) := by decide +kernel
theorem dX10_count_76 : decode cX10_count 76 = .ok (.iconst (-1), 1) := by decide +kernel
theorem dX10_count_77 : decode cX10_count 77 = .ok (.ireturn, 1) := by decide +kernel
set_option maxRecDepth 20000 in
theorem ggX10_value_X10_isNode : GoodIn wsX10_value wsX10_isNode := goodIn_r _ [6, 1, 7, 8, 5, 9, 10, 11, 12, 13, 14, 15, 16, 17, 18, 19, 20, 21, 22, 23, 24, 25, 26, 27, 28] (by decide +kernel) (by decide +kernel)
set_option maxRecDepth 20000 in
theorem gX10_value_X10_isNode : GoodIn wsX10_value (wsV RX10 55 RX10 yX10_isNode wsX10_isNode) := goodIn_app (goodIn_of _ (by decide +kernel)) ggX10_value_X10_isNode
theorem dX10_value_0 : decode cX10_value 0 = .ok (.aload_n 0, 1) := by decide +kernel
theorem dX10_value_1 : decode cX10_value 1 = .ok (.iload_n 1, 1) := by decide +kernel
theorem dX10_value_2 : decode cX10_value 2 = .ok (.invokevirtual 55, 3) := by decide +kernel
theorem dX10_value_5 : decode cX10_value 5 = .ok (.ifCond .eq 15, 3) := by decide +kernel
theorem dX10_value_8 : decode cX10_value 8 = .ok (.aload_n 0, 1) := by decide +kernel
theorem dX10_value_9 : decode cX10_value 9 = .ok (.getfield 7, 3) := by decide +kernel
theorem dX10_value_12 : decode cX10_value 12 = .ok (.bipush 18, 2) := by decide +kernel
theorem dX10_value_14 : decode cX10_value 14 = .ok (.iload_n 1, 1) := by decide +kernel
theorem dX10_value_15 : decode cX10_value 15 = .ok (.iadd, 1) := by decide +kernel
theorem dX10_value_16 : decode cX10_value 16 = .ok (.iaload, 1) := by decide +kernel
theorem dX10_value_17 : decode cX10_value 17 = .ok (.goto 4, 3) := by decide +kernel
theorem dX10_value_20 : decode cX10_value 20 = .ok (.iconst (-1), 1) := by decide +kernel
theorem dX10_value_21 : decode cX10_value 21 = .ok (.ireturn, 1) := by decide +kernel
set_option maxRecDepth 20000 in
theorem ggX10_appendCharacter_X10_in : GoodIn wsX10_appendCharacter wsX10_in := goodIn_r _ [6] (by decide +kernel) (by decide +kernel)
set_option maxRecDepth 20000 in
theorem gX10_appendCharacter_X10_in : GoodIn wsX10_appendCharacter (va_wsS RX10 51 yX10_in wsX10_in) := goodIn_app (goodIn_of _ (by decide +kernel)) ggX10_appendCharacter_X10_in
theorem dX10_appendCharacter_0 : decode cX10_appendCharacter 0 = .ok (.iload_n 1, 1) := by decide +kernel
theorem dX10_appendCharacter_1 : decode cX10_appendCharacter 1 = .ok (.iconst 0, 1) := by decide +kernel
theorem dX10_appendCharacter_2 : decode cX10_appendCharacter 2 = .ok (.sipush 255, 3) := by decide +kernel
theorem dX10_appendCharacter_5 : decode cX10_appendCharacter 5 = .ok (.invokestatic 51, 3) := by decide +kernel
theorem dX10_appendCharacter_8 : decode cX10_appendCharacter 8 = .ok (.ifCond .ne 5, 3) := by decide +kernel
theorem dX10_appendCharacter_11 : decode cX10_appendCharacter 11 = .ok (.iconst (-1), 1) := by decide +kernel
theorem dX10_appendCharacter_12 : decode cX10_appendCharacter 12 = .ok (.ireturn, 1) := by decide +kernel
theorem dX10_appendCharacter_13 : decode cX10_appendCharacter 13 = .ok (.aload_n 0, 1) := by decide +kernel
theorem dX10_appendCharacter_14 : decode cX10_appendCharacter 14 = .ok (.getfield 115, 3) := by decide +kernel
theorem dX10_appendCharacter_17 : decode cX10_appendCharacter 17 = .ok (.bipush 120, 2) := by decide +kernel
theorem dX10_appendCharacter_19 : decode cX10_appendCharacter 19 = .ok (.if_icmp .ne 6, 3) := by decide +kernel
theorem dX10_appendCharacter_22 : decode cX10_appendCharacter 22 = .ok (.bipush (-3), 2) := by decide +kernel
theorem dX10_appendCharacter_24 : decode cX10_appendCharacter 24 = .ok (.ireturn, 1) := by decide +kernel
theorem dX10_appendCharacter_25 : decode cX10_appendCharacter 25 = .ok (.aload_n 0, 1) := by decide +kernel
theorem dX10_appendCharacter_26 : decode cX10_appendCharacter 26 = .ok (.getfield 19, 3) := by decide +kernel
theorem dX10_appendCharacter_29 : decode cX10_appendCharacter 29 = .ok (.aload_n 0, 1) := by decide +kernel
theorem dX10_appendCharacter_30 : decode cX10_appendCharacter 30 = .ok (.getfield 115, 3) := by decide +kernel
theorem dX10_appendCharacter_33 : decode cX10_appendCharacter 33 = .ok (.iload_n 1, 1) := by decide +kernel
theorem dX10_appendCharacter_34 : decode cX10_appendCharacter 34 = .ok (.iastore, 1) := by decide +kernel
theorem dX10_appendCharacter_35 : decode cX10_appendCharacter 35 = .ok (.aload_n 0, 1) := by decide +kernel
theorem dX10_appendCharacter_36 : decode cX10_appendCharacter 36 = .ok (.dup, 1) := by decide +kernel
theorem dX10_appendCharacter_37 : decode cX10_appendCharacter 37 = .ok (.getfield 115, 3) := by decide +kernel
theorem dX10_appendCharacter_40 : decode cX10_appendCharacter 40 = .ok (.iconst 1, 1) := by decide +kernel
theorem dX10_appendCharacter_41 : decode cX10_appendCharacter 41 = .ok (.iadd, 1) := by decide +kernel
theorem dX10_appendCharacter_42 : decode cX10_appendCharacter 42 = .ok (.putfield 115, 3) := by decide +kernel
theorem dX10_appendCharacter_45 : decode cX10_appendCharacter 45 = .ok (.aload_n 0, 1) := by decide +kernel
theorem dX10_appendCharacter_46 : decode cX10_appendCharacter 46 = .ok (.getfield 115, 3) := by decide +kernel
theorem dX10_appendCharacter_49 : decode cX10_appendCharacter 49 = .ok (.ireturn, 1) := by decide +kernel
theorem dX10_clearText_0 : decode cX10_clearText 0 = .ok (.aload_n 0, 1) := by decide +kernel
theorem dX10_clearText_1 : decode cX10_clearText 1 = .ok (.getfield 115, 3) := by decide +kernel
theorem dX10_clearText_4 : decode cX10_clearText 4 = .ok (.istore_n 1, 1) := by decide +kernel
theorem dX10_clearText_5 : decode cX10_clearText 5 = .ok (.aload_n 0, 1) := by decide +kernel
theorem dX10_clearText_6 : decode cX10_clearText 6 = .ok (.iconst 0, 1) := by decide +kernel
theorem dX10_clearText_7 : decode cX10_clearText 7 = .ok (.putfield 115, 3) := by decide +kernel
theorem dX10_clearText_10 : decode cX10_clearText 10 = .ok (.iload_n 1, 1) := by decide +kernel
theorem dX10_clearText_11 : decode cX10_clearText 11 = .ok (.ireturn, 1) := by decide +kernel
set_option maxRecDepth 20000 in
theorem ggX10_isHere_X10_in : GoodIn wsX10_isHere wsX10_in := goodIn_r _ [7] (by decide +kernel) (by decide +kernel)
set_option maxRecDepth 20000 in
theorem gX10_isHere_X10_in : GoodIn wsX10_isHere (va_wsS RX10 51 yX10_in wsX10_in) := goodIn_app (goodIn_of _ (by decide +kernel)) ggX10_isHere_X10_in
theorem dX10_isHere_0 : decode cX10_isHere 0 = .ok (.aload_n 0, 1) := by decide +kernel
theorem dX10_isHere_1 : decode cX10_isHere 1 = .ok (.getfield 118, 3) := by decide +kernel
theorem dX10_isHere_4 : decode cX10_isHere 4 = .ok (.aload_n 0, 1) := by decide +kernel
theorem dX10_isHere_5 : decode cX10_isHere 5 = .ok (.getfield 115, 3) := by decide +kernel
theorem dX10_isHere_8 : decode cX10_isHere 8 = .ok (.if_icmp .ge 24, 3) := by decide +kernel
theorem dX10_isHere_11 : decode cX10_isHere 11 = .ok (.aload_n 0, 1) := by decide +kernel
theorem dX10_isHere_12 : decode cX10_isHere 12 = .ok (.getfield 19, 3) := by decide +kernel
theorem dX10_isHere_15 : decode cX10_isHere 15 = .ok (.aload_n 0, 1) := by decide +kernel
theorem dX10_isHere_16 : decode cX10_isHere 16 = .ok (.getfield 118, 3) := by decide +kernel
theorem dX10_isHere_19 : decode cX10_isHere 19 = .ok (.iaload, 1) := by decide +kernel
theorem dX10_isHere_20 : decode cX10_isHere 20 = .ok (.iload_n 1, 1) := by decide +kernel
theorem dX10_isHere_21 : decode cX10_isHere 21 = .ok (.iload_n 2, 1) := by decide +kernel
theorem dX10_isHere_22 : decode cX10_isHere 22 = .ok (.invokestatic 51, 3) := by decide +kernel
theorem dX10_isHere_25 : decode cX10_isHere 25 = .ok (.ifCond .eq 7, 3) := by decide +kernel
theorem dX10_isHere_28 : decode cX10_isHere 28 = .ok (.iconst 1, 1) := by decide +kernel
theorem dX10_isHere_29 : decode cX10_isHere 29 = .ok (.goto 4, 3) := by decide +kernel
theorem dX10_isHere_32 : decode cX10_isHere 32 = .ok (.iconst 0, 1) := by decide +kernel
theorem dX10_isHere_33 : decode cX10_isHere 33 = .ok (.ireturn, 1) := by decide +kernel
set_option maxRecDepth 20000 in
theorem ggX10_reads_X10_isHere : GoodIn wsX10_reads wsX10_isHere := goodIn_r _ [14, 1, 5, 7, 15, 16, 13, 17, 18, 19, 20, 21, 22, 23, 24, 25, 26, 27, 28, 29, 30, 31, 32, 33, 34, 35, 36] (by decide +kernel) (by decide +kernel)
set_option maxRecDepth 20000 in
theorem gX10_reads_X10_isHere : GoodIn wsX10_reads (wsV RX10 121 RX10 yX10_isHere wsX10_isHere) := goodIn_app (goodIn_of _ (by decide +kernel)) ggX10_reads_X10_isHere
theorem dX10_reads_0 : decode cX10_reads 0 = .ok (.aload_n 0, 1) := by decide +kernel
theorem dX10_reads_1 : decode cX10_reads 1 = .ok (.bipush 32, 2) := by decide +kernel
theorem dX10_reads_3 : decode cX10_reads 3 = .ok (.bipush 32, 2) := by decide +kernel
theorem dX10_reads_5 : decode cX10_reads 5 = .ok (.invokevirtual 121, 3) := by decide +kernel
theorem dX10_reads_8 : decode cX10_reads 8 = .ok (.ifCond .eq 16, 3) := by decide +kernel
theorem dX10_reads_11 : decode cX10_reads 11 = .ok (.aload_n 0, 1) := by decide +kernel
theorem dX10_reads_12 : decode cX10_reads 12 = .ok (.dup, 1) := by decide +kernel
theorem dX10_reads_13 : decode cX10_reads 13 = .ok (.getfield 118, 3) := by decide +kernel
theorem dX10_reads_16 : decode cX10_reads 16 = .ok (.iconst 1, 1) := by decide +kernel
theorem dX10_reads_17 : decode cX10_reads 17 = .ok (.iadd, 1) := by decide +kernel
theorem dX10_reads_18 : decode cX10_reads 18 = .ok (.putfield 118, 3) := by decide +kernel
theorem dX10_reads_21 : decode cX10_reads 21 = .ok (.goto (-21), 3) := by decide +kernel
theorem dX10_reads_24 : decode cX10_reads 24 = .ok (.aload_n 0, 1) := by decide +kernel
theorem dX10_reads_25 : decode cX10_reads 25 = .ok (.aload_n 0, 1) := by decide +kernel
theorem dX10_reads_26 : decode cX10_reads 26 = .ok (.getfield 118, 3) := by decide +kernel
theorem dX10_reads_29 : decode cX10_reads 29 = .ok (.putfield 124, 3) := by decide +kernel
theorem dX10_reads_32 : decode cX10_reads 32 = .ok (.aload_n 0, 1) := by decide +kernel
theorem dX10_reads_33 : decode cX10_reads 33 = .ok (.lconst 0, 1) := by decide +kernel
theorem dX10_reads_34 : decode cX10_reads 34 = .ok (.putfield 127, 3) := by decide +kernel
theorem dX10_reads_37 : decode cX10_reads 37 = .ok (.aload_n 0, 1) := by decide +kernel
theorem dX10_reads_38 : decode cX10_reads 38 = .ok (.iconst 0, 1) := by decide +kernel
theorem dX10_reads_39 : decode cX10_reads 39 = .ok (.putfield 131, 3) := by decide +kernel
theorem dX10_reads_42 : decode cX10_reads 42 = .ok (.aload_n 0, 1) := by decide +kernel
theorem dX10_reads_43 : decode cX10_reads 43 = .ok (.aload_n 0, 1) := by decide +kernel
theorem dX10_reads_44 : decode cX10_reads 44 = .ok (.getfield 118, 3) := by decide +kernel
theorem dX10_reads_47 : decode cX10_reads 47 = .ok (.aload_n 0, 1) := by decide +kernel
theorem dX10_reads_48 : decode cX10_reads 48 = .ok (.getfield 115, 3) := by decide +kernel
theorem dX10_reads_51 : decode cX10_reads 51 = .ok (.if_icmp .ne 7, 3) := by decide +kernel
theorem dX10_reads_54 : decode cX10_reads 54 = .ok (.iconst 0, 1) := by decide +kernel
theorem dX10_reads_55 : decode cX10_reads 55 = .ok (.goto 49, 3) := by decide +kernel
theorem dX10_reads_58 : decode cX10_reads 58 = .ok (.aload_n 0, 1) := by decide +kernel
theorem dX10_reads_59 : decode cX10_reads 59 = .ok (.bipush 97, 2) := by decide +kernel
theorem dX10_reads_61 : decode cX10_reads 61 = .ok (.bipush 122, 2) := by decide +kernel
theorem dX10_reads_63 : decode cX10_reads 63 = .ok (.invokevirtual 121, 3) := by decide +kernel
theorem dX10_reads_66 : decode cX10_reads 66 = .ok (.ifCond .eq 7, 3) := by decide +kernel
theorem dX10_reads_69 : decode cX10_reads 69 = .ok (.iconst 1, 1) := by decide +kernel
theorem dX10_reads_70 : decode cX10_reads 70 = .ok (.goto 34, 3) := by decide +kernel
theorem dX10_reads_73 : decode cX10_reads 73 = .ok (.aload_n 0, 1) := by decide +kernel
theorem dX10_reads_74 : decode cX10_reads 74 = .ok (.bipush 48, 2) := by decide +kernel
theorem dX10_reads_76 : decode cX10_reads 76 = .ok (.bipush 57, 2) := by decide +kernel
theorem dX10_reads_78 : decode cX10_reads 78 = .ok (.invokevirtual 121, 3) := by decide +kernel
theorem dX10_reads_81 : decode cX10_reads 81 = .ok (.ifCond .eq 7, 3) := by decide +kernel
theorem dX10_reads_84 : decode cX10_reads 84 = .ok (.iconst 2, 1) := by decide +kernel
theorem dX10_reads_85 : decode cX10_reads 85 = .ok (.goto 19, 3) := by decide +kernel
theorem dX10_reads_88 : decode cX10_reads 88 = .ok (.aload_n 0, 1) := by decide +kernel
theorem dX10_reads_89 : decode cX10_reads 89 = .ok (.bipush 59, 2) := by decide +kernel
theorem dX10_reads_91 : decode cX10_reads 91 = .ok (.bipush 59, 2) := by decide +kernel
theorem dX10_reads_93 : decode cX10_reads 93 = .ok (.invokevirtual 121, 3) := by decide +kernel
theorem dX10_reads_96 : decode cX10_reads 96 = .ok (.ifCond .eq 7, 3) := by decide +kernel
theorem dX10_reads_99 : decode cX10_reads 99 = .ok (.iconst 3, 1) := by decide +kernel
theorem dX10_reads_100 : decode cX10_reads 100 = .ok (.goto 4, 3) := by decide +kernel
theorem dX10_reads_103 : decode cX10_reads 103 = .ok (.iconst 4, 1) := by decide +kernel
theorem dX10_reads_104 : decode cX10_reads 104 = .ok (.putfield 134, 3) := by decide +kernel
theorem dX10_reads_107 : decode cX10_reads 107 = .ok (.aload_n 0, 1) := by decide +kernel
theorem dX10_reads_108 : decode cX10_reads 108 = .ok (.getfield 134, 3) := by decide +kernel
