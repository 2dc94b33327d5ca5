set_option maxRecDepth 20000 in
theorem ggX9_init_X8_init : GoodIn wsX9_init wsX8_init := goodIn_r _ [50, 51, 2, 3, 52, 53, 90, 91, 92, 93, 94] (by decide +kernel) (by decide +kernel)
set_option maxRecDepth 20000 in
theorem gX9_init_X8_init_n28 : GoodIn wsX9_init (wsX8_init) := ggX9_init_X8_init
set_option maxRecDepth 20000 in
theorem ggX9_init_X3_init : GoodIn wsX9_init wsX3_init := goodIn_r _ [56, 57, 2, 3, 33, 58, 59, 60, 95, 96, 97, 98] (by decide +kernel) (by decide +kernel)
set_option maxRecDepth 20000 in
theorem gX9_init_X3_init : GoodIn wsX9_init (wsX3_init) := ggX9_init_X3_init
set_option maxRecDepth 20000 in
theorem ggX9_init_X4_init : GoodIn wsX9_init wsX4_init := goodIn_r _ [63, 64, 2, 3, 33, 65, 66, 67, 68, 69, 99, 100, 101, 102, 103, 104, 105] (by decide +kernel) (by decide +kernel)
set_option maxRecDepth 20000 in
theorem gX9_init_X4_init : GoodIn wsX9_init (wsX4_init) := ggX9_init_X4_init
set_option maxRecDepth 20000 in
theorem ggX9_init_X1_init : GoodIn wsX9_init wsX1_init := goodIn_r _ [72, 73, 2, 3, 33, 74, 75, 76, 106, 107, 108, 109] (by decide +kernel) (by decide +kernel)
set_option maxRecDepth 20000 in
theorem gX9_init_X1_init : GoodIn wsX9_init (wsX1_init) := ggX9_init_X1_init
theorem dX9_init_0 : decode cX9_init 0 = .ok (.aload_n 0, 1) := by decide +kernel
theorem dX9_init_1 : decode cX9_init 1 = .ok (.invokespecial 1, 3) := by decide +kernel
theorem dX9_init_4 : decode cX9_init 4 = .ok (.aload_n 0, 1) := by decide +kernel
theorem dX9_init_5 : decode cX9_init 5 = .ok (.new 7, 3) := by decide +kernel
theorem dX9_init_8 : decode cX9_init 8 = .ok (.dup, 1) := by decide +kernel
theorem dX9_init_9 : decode cX9_init 9 = .ok (.invokespecial 9, 3) := by decide +kernel
theorem dX9_init_12 : decode cX9_init 12 = .ok (.putfield 10, 3) := by decide +kernel
theorem dX9_init_15 : decode cX9_init 15 = .ok (.aload_n 0, 1) := by decide +kernel
theorem dX9_init_16 : decode cX9_init 16 = .ok (.new 7, 3) := by decide +kernel
theorem dX9_init_19 : decode cX9_init 19 = .ok (.dup, 1) := by decide +kernel
theorem dX9_init_20 : decode cX9_init 20 = .ok (.invokespecial 9, 3) := by decide +kernel
theorem dX9_init_23 : decode cX9_init 23 = .ok (.putfield 16, 3) := by decide +kernel
theorem dX9_init_26 : decode cX9_init 26 = .ok (.aload_n 0, 1) := by decide +kernel
theorem dX9_init_27 : decode cX9_init 27 = .ok (.new 19, 3) := by decide +kernel
theorem dX9_init_30 : decode cX9_init 30 = .ok (.dup, 1) := by decide +kernel
theorem dX9_init_31 : decode cX9_init 31 = .ok (.invokespecial 21, 3) := by decide +kernel
theorem dX9_init_34 : decode cX9_init 34 = .ok (.putfield 22, 3) := by decide +kernel
theorem dX9_init_37 : decode cX9_init 37 = .ok (.aload_n 0, 1) := by decide +kernel
theorem dX9_init_38 : decode cX9_init 38 = .ok (.new 26, 3) := by decide +kernel
theorem dX9_init_41 : decode cX9_init 41 = .ok (.dup, 1) := by decide +kernel
theorem dX9_init_42 : decode cX9_init 42 = .ok (.invokespecial 28, 3) := by decide +kernel
theorem dX9_init_45 : decode cX9_init 45 = .ok (.putfield 29, 3) := by decide +kernel
theorem dX9_init_48 : decode cX9_init 48 = .ok (.aload_n 0, 1) := by decide +kernel
theorem dX9_init_49 : decode cX9_init 49 = .ok (.new 33, 3) := by decide +kernel
theorem dX9_init_52 : decode cX9_init 52 = .ok (.dup, 1) := by decide +kernel
theorem dX9_init_53 : decode cX9_init 53 = .ok (.aload_n 0, 1) := by decide +kernel
theorem dX9_init_54 : decode cX9_init 54 = .ok (.getfield 10, 3) := by decide +kernel
theorem dX9_init_57 : decode cX9_init 57 = .ok (.invokespecial 35, 3) := by decide +kernel
theorem dX9_init_60 : decode cX9_init 60 = .ok (.putfield 38, 3) := by decide +kernel
theorem dX9_init_63 : decode cX9_init 63 = .ok (.aload_n 0, 1) := by decide +kernel
theorem dX9_init_64 : decode cX9_init 64 = .ok (.new 42, 3) := by decide +kernel
theorem dX9_init_67 : decode cX9_init 67 = .ok (.dup, 1) := by decide +kernel
theorem dX9_init_68 : decode cX9_init 68 = .ok (.aload_n 0, 1) := by decide +kernel
theorem dX9_init_69 : decode cX9_init 69 = .ok (.getfield 10, 3) := by decide +kernel
theorem dX9_init_72 : decode cX9_init 72 = .ok (.invokespecial 44, 3) := by decide +kernel
theorem dX9_init_75 : decode cX9_init 75 = .ok (.putfield 45, 3) := by decide +kernel
theorem dX9_init_78 : decode cX9_init 78 = .ok (.aload_n 0, 1) := by decide +kernel
theorem dX9_init_79 : decode cX9_init 79 = .ok (.new 49, 3) := by decide +kernel
theorem dX9_init_82 : decode cX9_init 82 = .ok (.dup, 1) := by decide +kernel
theorem dX9_init_83 : decode cX9_init 83 = .ok (.aload_n 0, 1) := by decide +kernel
theorem dX9_init_84 : decode cX9_init 84 = .ok (.getfield 10, 3) := by decide +kernel
theorem dX9_init_87 : decode cX9_init 87 = .ok (.aload_n 0, 1) := by decide +kernel
theorem dX9_init_88 : decode cX9_init 88 = .ok (.getfield 38, 3) := by decide +kernel
theorem dX9_init_91 : decode cX9_init 91 = .ok (.invokespecial 51, 3) := by decide +kernel
theorem dX9_init_94 : decode cX9_init 94 = .ok (.putfield 54, 3) := by decide +kernel
theorem dX9_init_97 : decode cX9_init 97 = .ok (.return_, 1) := by decide +kernel
set_option maxRecDepth 20000 in
theorem ggX9_setNodes_X7_nodes : GoodIn wsX9_setNodes wsX7_nodes := goodIn_r _ [7, 8, 38, 39, 40, 41] (by decide +kernel) (by decide +kernel)
set_option maxRecDepth 20000 in
theorem gX9_setNodes_X7_nodes : GoodIn wsX9_setNodes (wsV RX9 58 RX7 yX7_nodes wsX7_nodes) := goodIn_app (goodIn_of _ (by decide +kernel)) ggX9_setNodes_X7_nodes
set_option maxRecDepth 20000 in
theorem ggX9_setNodes_X5_save : GoodIn wsX9_setNodes wsX5_save := goodIn_r _ [13, 14, 15, 16, 17, 18, 12, 19, 20, 21, 22, 6, 23, 8, 24, 25, 26, 42, 43, 38, 39, 40, 41] (by decide +kernel) (by decide +kernel)
set_option maxRecDepth 20000 in
theorem gX9_setNodes_X5_save : GoodIn wsX9_setNodes (wsV RX9 62 RX5 yX5_save wsX5_save) := goodIn_app (goodIn_of _ (by decide +kernel)) ggX9_setNodes_X5_save
set_option maxRecDepth 20000 in
theorem ggX9_setNodes_X7_beginAnew : GoodIn wsX9_setNodes wsX7_beginAnew := goodIn_r _ [30, 8, 24, 26, 38, 39, 40, 41] (by decide +kernel) (by decide +kernel)
set_option maxRecDepth 20000 in
theorem gX9_setNodes_X7_beginAnew : GoodIn wsX9_setNodes (wsV RX9 65 RX7 yX7_beginAnew wsX7_beginAnew) := goodIn_app (goodIn_of _ (by decide +kernel)) ggX9_setNodes_X7_beginAnew
theorem dX9_setNodes_0 : decode cX9_setNodes 0 = .ok (.iload_n 1, 1) := by decide +kernel
theorem dX9_setNodes_1 : decode cX9_setNodes 1 = .ok (.iconst 2, 1) := by decide +kernel
theorem dX9_setNodes_2 : decode cX9_setNodes 2 = .ok (.if_icmp .lt 9, 3) := by decide +kernel
theorem dX9_setNodes_5 : decode cX9_setNodes 5 = .ok (.iload_n 1, 1) := by decide +kernel
theorem dX9_setNodes_6 : decode cX9_setNodes 6 = .ok (.bipush 8, 2) := by decide +kernel
theorem dX9_setNodes_8 : decode cX9_setNodes 8 = .ok (.if_icmp .le 5, 3) := by decide +kernel
theorem dX9_setNodes_11 : decode cX9_setNodes 11 = .ok (.iconst (-1), 1) := by decide +kernel
theorem dX9_setNodes_12 : decode cX9_setNodes 12 = .ok (.ireturn, 1) := by decide +kernel
theorem dX9_setNodes_13 : decode cX9_setNodes 13 = .ok (.aload_n 0, 1) := by decide +kernel
theorem dX9_setNodes_14 : decode cX9_setNodes 14 = .ok (.getfield 10, 3) := by decide +kernel
theorem dX9_setNodes_17 : decode cX9_setNodes 17 = .ok (.invokevirtual 58, 3) := by decide +kernel
theorem dX9_setNodes_20 : decode cX9_setNodes 20 = .ok (.istore_n 2, 1) := by decide +kernel
theorem dX9_setNodes_21 : decode cX9_setNodes 21 = .ok (.aload_n 0, 1) := by decide +kernel
theorem dX9_setNodes_22 : decode cX9_setNodes 22 = .ok (.getfield 22, 3) := by decide +kernel
theorem dX9_setNodes_25 : decode cX9_setNodes 25 = .ok (.aload_n 0, 1) := by decide +kernel
theorem dX9_setNodes_26 : decode cX9_setNodes 26 = .ok (.getfield 10, 3) := by decide +kernel
theorem dX9_setNodes_29 : decode cX9_setNodes 29 = .ok (.invokevirtual 62, 3) := by decide +kernel
theorem dX9_setNodes_32 : decode cX9_setNodes 32 = .ok (.aload_n 0, 1) := by decide +kernel
theorem dX9_setNodes_33 : decode cX9_setNodes 33 = .ok (.getfield 10, 3) := by decide +kernel
theorem dX9_setNodes_36 : decode cX9_setNodes 36 = .ok (.iload_n 1, 1) := by decide +kernel
theorem dX9_setNodes_37 : decode cX9_setNodes 37 = .ok (.invokevirtual 65, 3) := by decide +kernel
theorem dX9_setNodes_40 : decode cX9_setNodes 40 = .ok (.iload_n 2, 1) := by decide +kernel
theorem dX9_setNodes_41 : decode cX9_setNodes 41 = .ok (.ireturn, 1) := by decide +kernel
set_option maxRecDepth 20000 in
theorem ggX9_addRound_X7_isFull : GoodIn wsX9_addRound wsX7_isFull := goodIn_r _ [7, 8, 43, 44, 45, 46] (by decide +kernel) (by decide +kernel)
set_option maxRecDepth 20000 in
theorem gX9_addRound_X7_isFull : GoodIn wsX9_addRound (wsV RX9 69 RX7 yX7_isFull wsX7_isFull) := goodIn_app (goodIn_of _ (by decide +kernel)) ggX9_addRound_X7_isFull
set_option maxRecDepth 20000 in
theorem ggX9_addRound_X5_save : GoodIn wsX9_addRound wsX5_save := goodIn_r _ [13, 14, 15, 16, 17, 18, 12, 19, 20, 21, 22, 6, 23, 24, 8, 25, 26, 47, 48, 43, 44, 45, 46] (by decide +kernel) (by decide +kernel)
set_option maxRecDepth 20000 in
theorem gX9_addRound_X5_save : GoodIn wsX9_addRound (wsV RX9 62 RX5 yX5_save wsX5_save) := goodIn_app (goodIn_of _ (by decide +kernel)) ggX9_addRound_X5_save
set_option maxRecDepth 20000 in
theorem ggX9_addRound_X7_append : GoodIn wsX9_addRound wsX7_append := goodIn_r _ [30, 25, 8, 31, 4, 5, 6, 7, 43, 44, 45, 46] (by decide +kernel) (by decide +kernel)
set_option maxRecDepth 20000 in
theorem gX9_addRound_X7_append : GoodIn wsX9_addRound (wsV RX9 73 RX7 yX7_append wsX7_append) := goodIn_app (goodIn_of _ (by decide +kernel)) ggX9_addRound_X7_append
set_option maxRecDepth 20000 in
theorem ggX9_addRound_X7_rounds : GoodIn wsX9_addRound wsX7_rounds := goodIn_r _ [35, 8, 43, 44, 45, 46] (by decide +kernel) (by decide +kernel)
set_option maxRecDepth 20000 in
theorem gX9_addRound_X7_rounds : GoodIn wsX9_addRound (wsV RX9 76 RX7 yX7_rounds wsX7_rounds) := goodIn_app (goodIn_of _ (by decide +kernel)) ggX9_addRound_X7_rounds
theorem dX9_addRound_0 : decode cX9_addRound 0 = .ok (.aload_n 0, 1) := by decide +kernel
theorem dX9_addRound_1 : decode cX9_addRound 1 = .ok (.getfield 10, 3) := by decide +kernel
theorem dX9_addRound_4 : decode cX9_addRound 4 = .ok (.invokevirtual 69, 3) := by decide +kernel
theorem dX9_addRound_7 : decode cX9_addRound 7 = .ok (.ifCond .eq 6, 3) := by decide +kernel
theorem dX9_addRound_10 : decode cX9_addRound 10 = .ok (.bipush (-3), 2) := by decide +kernel
theorem dX9_addRound_12 : decode cX9_addRound 12 = .ok (.ireturn, 1) := by decide +kernel
theorem dX9_addRound_13 : decode cX9_addRound 13 = .ok (.aload_n 0, 1) := by decide +kernel
theorem dX9_addRound_14 : decode cX9_addRound 14 = .ok (.getfield 22, 3) := by decide +kernel
theorem dX9_addRound_17 : decode cX9_addRound 17 = .ok (.aload_n 0, 1) := by decide +kernel
theorem dX9_addRound_18 : decode cX9_addRound 18 = .ok (.getfield 10, 3) := by decide +kernel
theorem dX9_addRound_21 : decode cX9_addRound 21 = .ok (.invokevirtual 62, 3) := by decide +kernel
theorem dX9_addRound_24 : decode cX9_addRound 24 = .ok (.aload_n 0, 1) := by decide +kernel
theorem dX9_addRound_25 : decode cX9_addRound 25 = .ok (.getfield 10, 3) := by decide +kernel
theorem dX9_addRound_28 : decode cX9_addRound 28 = .ok (.iconst 0, 1) := by decide +kernel
theorem dX9_addRound_29 : decode cX9_addRound 29 = .ok (.invokevirtual 73, 3) := by decide +kernel
theorem dX9_addRound_32 : decode cX9_addRound 32 = .ok (.aload_n 0, 1) := by decide +kernel
theorem dX9_addRound_33 : decode cX9_addRound 33 = .ok (.getfield 10, 3) := by decide +kernel
theorem dX9_addRound_36 : decode cX9_addRound 36 = .ok (.invokevirtual 76, 3) := by decide +kernel
theorem dX9_addRound_39 : decode cX9_addRound 39 = .ok (.iconst 1, 1) := by decide +kernel
theorem dX9_addRound_40 : decode cX9_addRound 40 = .ok (.isub, 1) := by decide +kernel
theorem dX9_addRound_41 : decode cX9_addRound 41 = .ok (.ireturn, 1) := by decide +kernel
set_option maxRecDepth 20000 in
theorem ggX9_setEdge_X7_hasPlace : GoodIn wsX9_setEdge wsX7_hasPlace := goodIn_r _ [7, 8, 9, 10, 6, 11, 12, 13, 14, 15, 16, 17, 61, 62, 63, 64] (by decide +kernel) (by decide +kernel)
set_option maxRecDepth 20000 in
theorem gX9_setEdge_X7_hasPlace : GoodIn wsX9_setEdge (wsV RX9 79 RX7 yX7_hasPlace wsX7_hasPlace) := goodIn_app (goodIn_of _ (by decide +kernel)) ggX9_setEdge_X7_hasPlace
set_option maxRecDepth 20000 in
theorem ggX9_setEdge_X7_edgesOf : GoodIn wsX9_setEdge wsX7_edgesOf := goodIn_r _ [21, 22, 8, 9, 10, 6, 11, 12, 61, 62, 63, 64] (by decide +kernel) (by decide +kernel)
set_option maxRecDepth 20000 in
theorem gX9_setEdge_X7_edgesOf : GoodIn wsX9_setEdge (wsV RX9 83 RX7 yX7_edgesOf wsX7_edgesOf) := goodIn_app (goodIn_of _ (by decide +kernel)) ggX9_setEdge_X7_edgesOf
set_option maxRecDepth 20000 in
theorem ggX9_setEdge_X2_between : GoodIn wsX9_setEdge wsX2_between := goodIn_r _ [26] (by decide +kernel) (by decide +kernel)
set_option maxRecDepth 20000 in
theorem gX9_setEdge_X2_between : GoodIn wsX9_setEdge (va_wsS RX9 87 yX2_between wsX2_between) := goodIn_app (goodIn_of _ (by decide +kernel)) ggX9_setEdge_X2_between
set_option maxRecDepth 20000 in
theorem ggX9_setEdge_X5_save : GoodIn wsX9_setEdge wsX5_save := goodIn_r _ [31, 32, 33, 34, 35, 36, 30, 37, 38, 39, 40, 6, 41, 17, 12, 22, 42, 65, 66, 61, 62, 63, 64] (by decide +kernel) (by decide +kernel)
set_option maxRecDepth 20000 in
theorem gX9_setEdge_X5_save : GoodIn wsX9_setEdge (wsV RX9 62 RX5 yX5_save wsX5_save) := goodIn_app (goodIn_of _ (by decide +kernel)) ggX9_setEdge_X5_save
set_option maxRecDepth 20000 in
theorem ggX9_setEdge_X7_replace : GoodIn wsX9_setEdge wsX7_replace := goodIn_r _ [46, 22, 8, 9, 10, 6, 11, 12, 61, 62, 63, 64] (by decide +kernel) (by decide +kernel)
set_option maxRecDepth 20000 in
theorem gX9_setEdge_X7_replace : GoodIn wsX9_setEdge (wsV RX9 93 RX7 yX7_replace wsX7_replace) := goodIn_app (goodIn_of _ (by decide +kernel)) ggX9_setEdge_X7_replace
set_option maxRecDepth 20000 in
theorem ggX9_setEdge_J6_bitCount_0f7a4 : GoodIn wsX9_setEdge wsJ6_bitCount_0f7a4 := goodIn_r _ [50, 51, 52, 53] (by decide +kernel) (by decide +kernel)
set_option maxRecDepth 20000 in
theorem gX9_setEdge_J6_bitCount_0f7a4 : GoodIn wsX9_setEdge (va_wsS RX9 97 yJ6_bitCount_0f7a4 wsJ6_bitCount_0f7a4) := goodIn_app (goodIn_of _ (by decide +kernel)) ggX9_setEdge_J6_bitCount_0f7a4
theorem dX9_setEdge_0 : decode cX9_setEdge 0 = .ok (.aload_n 0, 1) := by decide +kernel
theorem dX9_setEdge_1 : decode cX9_setEdge 1 = .ok (.getfield 10, 3) := by decide +kernel
theorem dX9_setEdge_4 : decode cX9_setEdge 4 = .ok (.iload_n 1, 1) := by decide +kernel
theorem dX9_setEdge_5 : decode cX9_setEdge 5 = .ok (.iload_n 2, 1) := by decide +kernel
theorem dX9_setEdge_6 : decode cX9_setEdge 6 = .ok (.iload_n 3, 1) := by decide +kernel
theorem dX9_setEdge_7 : decode cX9_setEdge 7 = .ok (.invokevirtual 79, 3) := by decide +kernel
theorem dX9_setEdge_10 : decode cX9_setEdge 10 = .ok (.ifCond .eq 14, 3) := by decide +kernel
theorem dX9_setEdge_13 : decode cX9_setEdge 13 = .ok (.iload 4, 2) := by decide +kernel
theorem dX9_setEdge_15 : decode cX9_setEdge 15 = .ok (.ifCond .lt 9, 3) := by decide +kernel
theorem dX9_setEdge_18 : decode cX9_setEdge 18 = .ok (.iload 4, 2) := by decide +kernel
theorem dX9_setEdge_20 : decode cX9_setEdge 20 = .ok (.iconst 1, 1) := by decide +kernel
theorem dX9_setEdge_21 : decode cX9_setEdge 21 = .ok (.if_icmp .le 5, 3) := by decide +kernel
theorem dX9_setEdge_24 : decode cX9_setEdge 24 = .ok (.iconst (-1), 1) := by decide +kernel
theorem dX9_setEdge_25 : decode cX9_setEdge 25 = .ok (.ireturn, 1) := by decide +kernel
theorem dX9_setEdge_26 : decode cX9_setEdge 26 = .ok (.aload_n 0, 1) := by decide +kernel
theorem dX9_setEdge_27 : decode cX9_setEdge 27 = .ok (.getfield 10, 3) := by decide +kernel
theorem dX9_setEdge_30 : decode cX9_setEdge 30 = .ok (.iload_n 1, 1) := by decide +kernel
theorem dX9_setEdge_31 : decode cX9_setEdge 31 = .ok (.invokevirtual 83, 3) := by decide +kernel
theorem dX9_setEdge_34 : decode cX9_setEdge 34 = .ok (.istore 5, 2) := by decide +kernel
theorem dX9_setEdge_36 : decode cX9_setEdge 36 = .ok (.iload 4, 2) := by decide +kernel
theorem dX9_setEdge_38 : decode cX9_setEdge 38 = .ok (.iconst 1, 1) := by decide +kernel
theorem dX9_setEdge_39 : decode cX9_setEdge 39 = .ok (.if_icmp .ne 14, 3) := by decide +kernel
theorem dX9_setEdge_42 : decode cX9_setEdge 42 = .ok (.iload 5, 2) := by decide +kernel
theorem dX9_setEdge_44 : decode cX9_setEdge 44 = .ok (.iload_n 2, 1) := by decide +kernel
theorem dX9_setEdge_45 : decode cX9_setEdge 45 = .ok (.iload_n 3, 1) := by decide +kernel
theorem dX9_setEdge_46 : decode cX9_setEdge 46 = .ok (.invokestatic 87, 3) := by decide +kernel
theorem dX9_setEdge_49 : decode cX9_setEdge 49 = .ok (.ior, 1) := by decide +kernel
theorem dX9_setEdge_50 : decode cX9_setEdge 50 = .ok (.goto 13, 3) := by decide +kernel
theorem dX9_setEdge_53 : decode cX9_setEdge 53 = .ok (.iload 5, 2) := by decide +kernel
theorem dX9_setEdge_55 : decode cX9_setEdge 55 = .ok (.iload_n 2, 1) := by decide +kernel
theorem dX9_setEdge_56 : decode cX9_setEdge 56 = .ok (.iload_n 3, 1) := by decide +kernel
theorem dX9_setEdge_57 : decode cX9_setEdge 57 = .ok (.invokestatic 87, 3) := by decide +kernel
theorem dX9_setEdge_60 : decode cX9_setEdge 60 = .ok (.iconst (-1), 1) := by decide +kernel
theorem dX9_setEdge_61 : decode cX9_setEdge 61 = .ok (.ixor, 1) := by decide +kernel
theorem dX9_setEdge_62 : decode cX9_setEdge 62 = .ok (.iand, 1) := by decide +kernel
theorem dX9_setEdge_63 : decode cX9_setEdge 63 = .ok (.istore 6, 2) := by decide +kernel
theorem dX9_setEdge_65 : decode cX9_setEdge 65 = .ok (.iload 6, 2) := by decide +kernel
theorem dX9_setEdge_67 : decode cX9_setEdge 67 = .ok (.iload 5, 2) := by decide +kernel
theorem dX9_setEdge_69 : decode cX9_setEdge 69 = .ok (.if_icmp .ne 6, 3) := by decide +kernel
theorem dX9_setEdge_72 : decode cX9_setEdge 72 = .ok (.bipush (-2), 2) := by decide +kernel
theorem dX9_setEdge_74 : decode cX9_setEdge 74 = .ok (.ireturn, 1) := by decide +kernel
theorem dX9_setEdge_75 : decode cX9_setEdge 75 = .ok (.aload_n 0, 1) := by decide +kernel
theorem dX9_setEdge_76 : decode cX9_setEdge 76 = .ok (.getfield 22, 3) := by decide +kernel
theorem dX9_setEdge_79 : decode cX9_setEdge 79 = .ok (.aload_n 0, 1) := by decide +kernel
theorem dX9_setEdge_80 : decode cX9_setEdge 80 = .ok (.getfield 10, 3) := by decide +kernel
theorem dX9_setEdge_83 : decode cX9_setEdge 83 = .ok (.invokevirtual 62, 3) := by decide +kernel
theorem dX9_setEdge_86 : decode cX9_setEdge 86 = .ok (.aload_n 0, 1) := by decide +kernel
theorem dX9_setEdge_87 : decode cX9_setEdge 87 = .ok (.getfield 10, 3) := by decide +kernel
theorem dX9_setEdge_90 : decode cX9_setEdge 90 = .ok (.iload_n 1, 1) := by decide +kernel
theorem dX9_setEdge_91 : decode cX9_setEdge 91 = .ok (.iload 6, 2) := by decide +kernel
theorem dX9_setEdge_93 : decode cX9_setEdge 93 = .ok (.invokevirtual 93, 3) := by decide +kernel
theorem dX9_setEdge_96 : decode cX9_setEdge 96 = .ok (.iload 6, 2) := by decide +kernel
theorem dX9_setEdge_98 : decode cX9_setEdge 98 = .ok (.invokestatic 97, 3) := by decide +kernel
theorem dX9_setEdge_101 : decode cX9_setEdge 101 = .ok (.ireturn, 1) := by decide +kernel
set_option maxRecDepth 20000 in
theorem ggX9_removeRound_X7_hasRound : GoodIn wsX9_removeRound wsX7_hasRound := goodIn_r _ [7, 8, 43, 44, 45, 46] (by decide +kernel) (by decide +kernel)
set_option maxRecDepth 20000 in
theorem gX9_removeRound_X7_hasRound : GoodIn wsX9_removeRound (wsV RX9 102 RX7 yX7_hasRound wsX7_hasRound) := goodIn_app (goodIn_of _ (by decide +kernel)) ggX9_removeRound_X7_hasRound
set_option maxRecDepth 20000 in
theorem ggX9_removeRound_X5_save : GoodIn wsX9_removeRound wsX5_save := goodIn_r _ [13, 14, 15, 16, 17, 18, 12, 19, 20, 21, 22, 6, 23, 24, 8, 25, 26, 47, 48, 43, 44, 45, 46] (by decide +kernel) (by decide +kernel)
set_option maxRecDepth 20000 in
theorem gX9_removeRound_X5_save : GoodIn wsX9_removeRound (wsV RX9 62 RX5 yX5_save wsX5_save) := goodIn_app (goodIn_of _ (by decide +kernel)) ggX9_removeRound_X5_save
set_option maxRecDepth 20000 in
theorem ggX9_removeRound_X7_removeAt : GoodIn wsX9_removeRound wsX7_removeAt := goodIn_r _ [30, 8, 25, 31, 4, 5, 6, 7, 43, 44, 45, 46] (by decide +kernel) (by decide +kernel)
set_option maxRecDepth 20000 in
theorem gX9_removeRound_X7_removeAt : GoodIn wsX9_removeRound (wsV RX9 106 RX7 yX7_removeAt wsX7_removeAt) := goodIn_app (goodIn_of _ (by decide +kernel)) ggX9_removeRound_X7_removeAt
set_option maxRecDepth 20000 in
theorem ggX9_removeRound_X7_rounds : GoodIn wsX9_removeRound wsX7_rounds := goodIn_r _ [35, 8, 43, 44, 45, 46] (by decide +kernel) (by decide +kernel)
set_option maxRecDepth 20000 in
theorem gX9_removeRound_X7_rounds : GoodIn wsX9_removeRound (wsV RX9 76 RX7 yX7_rounds wsX7_rounds) := goodIn_app (goodIn_of _ (by decide +kernel)) ggX9_removeRound_X7_rounds
theorem dX9_removeRound_0 : decode cX9_removeRound 0 = .ok (.aload_n 0, 1) := by decide +kernel
theorem dX9_removeRound_1 : decode cX9_removeRound 1 = .ok (.getfield 10, 3) := by decide +kernel
theorem dX9_removeRound_4 : decode cX9_removeRound 4 = .ok (.iload_n 1, 1) := by decide +kernel
theorem dX9_removeRound_5 : decode cX9_removeRound 5 = .ok (.invokevirtual 102, 3) := by decide +kernel
theorem dX9_removeRound_8 : decode cX9_removeRound 8 = .ok (.ifCond .ne 5, 3) := by decide +kernel
theorem dX9_removeRound_11 : decode cX9_removeRound 11 = .ok (.iconst (-1), 1) := by decide +kernel
theorem dX9_removeRound_12 : decode cX9_removeRound 12 = .ok (.ireturn, 1) := by decide +kernel
theorem dX9_removeRound_13 : decode cX9_removeRound 13 = .ok (.aload_n 0, 1) := by decide +kernel
theorem dX9_removeRound_14 : decode cX9_removeRound 14 = .ok (.getfield 22, 3) := by decide +kernel
theorem dX9_removeRound_17 : decode cX9_removeRound 17 = .ok (.aload_n 0, 1) := by decide +kernel
theorem dX9_removeRound_18 : decode cX9_removeRound 18 = .ok (.getfield 10, 3) := by decide +kernel
theorem dX9_removeRound_21 : decode cX9_removeRound 21 = .ok (.invokevirtual 62, 3) := by decide +kernel
theorem dX9_removeRound_24 : decode cX9_removeRound 24 = .ok (.aload_n 0, 1) := by decide +kernel
theorem dX9_removeRound_25 : decode cX9_removeRound 25 = .ok (.getfield 10, 3) := by decide +kernel
theorem dX9_removeRound_28 : decode cX9_removeRound 28 = .ok (.iload_n 1, 1) := by decide +kernel
theorem dX9_removeRound_29 : decode cX9_removeRound 29 = .ok (.invokevirtual 106, 3) := by decide +kernel
theorem dX9_removeRound_32 : decode cX9_removeRound 32 = .ok (.aload_n 0, 1) := by decide +kernel
theorem dX9_removeRound_33 : decode cX9_removeRound 33 = .ok (.getfield 10, 3) := by decide +kernel
theorem dX9_removeRound_36 : decode cX9_removeRound 36 = .ok (.invokevirtual 76, 3) := by decide +kernel
theorem dX9_removeRound_39 : decode cX9_removeRound 39 = .ok (.ireturn, 1) := by decide +kernel
set_option maxRecDepth 20000 in
theorem ggX9_swapRounds_X7_hasRound : GoodIn wsX9_swapRounds wsX7_hasRound := goodIn_r _ [7, 8, 50, 51, 52, 53] (by decide +kernel) (by decide +kernel)
set_option maxRecDepth 20000 in
theorem gX9_swapRounds_X7_hasRound : GoodIn wsX9_swapRounds (wsV RX9 102 RX7 yX7_hasRound wsX7_hasRound) := goodIn_app (goodIn_of _ (by decide +kernel)) ggX9_swapRounds_X7_hasRound
set_option maxRecDepth 20000 in
theorem ggX9_swapRounds_X5_save : GoodIn wsX9_swapRounds wsX5_save := goodIn_r _ [13, 14, 15, 16, 17, 18, 12, 19, 20, 21, 22, 6, 23, 24, 8, 25, 26, 54, 55, 50, 51, 52, 53] (by decide +kernel) (by decide +kernel)
set_option maxRecDepth 20000 in
theorem gX9_swapRounds_X5_save : GoodIn wsX9_swapRounds (wsV RX9 62 RX5 yX5_save wsX5_save) := goodIn_app (goodIn_of _ (by decide +kernel)) ggX9_swapRounds_X5_save
set_option maxRecDepth 20000 in
theorem ggX9_swapRounds_X7_edgesOf : GoodIn wsX9_swapRounds wsX7_edgesOf := goodIn_r _ [30, 25, 31, 4, 5, 6, 7, 8, 50, 51, 52, 53] (by decide +kernel) (by decide +kernel)
set_option maxRecDepth 20000 in
theorem gX9_swapRounds_X7_edgesOf : GoodIn wsX9_swapRounds (wsV RX9 83 RX7 yX7_edgesOf wsX7_edgesOf) := goodIn_app (goodIn_of _ (by decide +kernel)) ggX9_swapRounds_X7_edgesOf
set_option maxRecDepth 20000 in
theorem ggX9_swapRounds_X7_replace : GoodIn wsX9_swapRounds wsX7_replace := goodIn_r _ [35, 25, 31, 4, 5, 6, 7, 8, 50, 51, 52, 53] (by decide +kernel) (by decide +kernel)
set_option maxRecDepth 20000 in
theorem gX9_swapRounds_X7_replace : GoodIn wsX9_swapRounds (wsV RX9 93 RX7 yX7_replace wsX7_replace) := goodIn_app (goodIn_of _ (by decide +kernel)) ggX9_swapRounds_X7_replace
set_option maxRecDepth 20000 in
theorem ggX9_swapRounds_J6_bitCount_0f7a4 : GoodIn wsX9_swapRounds wsJ6_bitCount_0f7a4 := goodIn_r _ [39, 40, 41, 42] (by decide +kernel) (by decide +kernel)
set_option maxRecDepth 20000 in
theorem gX9_swapRounds_J6_bitCount_0f7a4 : GoodIn wsX9_swapRounds (va_wsS RX9 97 yJ6_bitCount_0f7a4 wsJ6_bitCount_0f7a4) := goodIn_app (goodIn_of _ (by decide +kernel)) ggX9_swapRounds_J6_bitCount_0f7a4
theorem dX9_swapRounds_0 : decode cX9_swapRounds 0 = .ok (.aload_n 0, 1) := by decide +kernel
theorem dX9_swapRounds_1 : decode cX9_swapRounds 1 = .ok (.getfield 10, 3) := by decide +kernel
theorem dX9_swapRounds_4 : decode cX9_swapRounds 4 = .ok (.iload_n 1, 1) := by decide +kernel
theorem dX9_swapRounds_5 : decode cX9_swapRounds 5 = .ok (.invokevirtual 102, 3) := by decide +kernel
theorem dX9_swapRounds_8 : decode cX9_swapRounds 8 = .ok (.ifCond .eq 14, 3) := by decide +kernel
theorem dX9_swapRounds_11 : decode cX9_swapRounds 11 = .ok (.aload_n 0, 1) := by decide +kernel
theorem dX9_swapRounds_12 : decode cX9_swapRounds 12 = .ok (.getfield 10, 3) := by decide +kernel
theorem dX9_swapRounds_15 : decode cX9_swapRounds 15 = .ok (.iload_n 2, 1) := by decide +kernel
theorem dX9_swapRounds_16 : decode cX9_swapRounds 16 = .ok (.invokevirtual 102, 3) := by decide +kernel
theorem dX9_swapRounds_19 : decode cX9_swapRounds 19 = .ok (.ifCond .ne 5, 3) := by decide +kernel
theorem dX9_swapRounds_22 : decode cX9_swapRounds 22 = .ok (.iconst (-1), 1) := by decide +kernel
theorem dX9_swapRounds_23 : decode cX9_swapRounds 23 = .ok (.ireturn, 1) := by decide +kernel
theorem dX9_swapRounds_24 : decode cX9_swapRounds 24 = .ok (.aload_n 0, 1) := by decide +kernel
theorem dX9_swapRounds_25 : decode cX9_swapRounds 25 = .ok (.getfield 22, 3) := by decide +kernel
theorem dX9_swapRounds_28 : decode cX9_swapRounds 28 = .ok (.aload_n 0, 1) := by decide +kernel
theorem dX9_swapRounds_29 : decode cX9_swapRounds 29 = .ok (.getfield 10, 3) := by decide +kernel
theorem dX9_swapRounds_32 : decode cX9_swapRounds 32 = .ok (.invokevirtual 62, 3) := by decide +kernel
theorem dX9_swapRounds_35 : decode cX9_swapRounds 35 = .ok (.aload_n 0, 1) := by decide +kernel
theorem dX9_swapRounds_36 : decode cX9_swapRounds 36 = .ok (.getfield 10, 3) := by decide +kernel
theorem dX9_swapRounds_39 : decode cX9_swapRounds 39 = .ok (.iload_n 1, 1) := by decide +kernel
theorem dX9_swapRounds_40 : decode cX9_swapRounds 40 = .ok (.invokevirtual 83, 3) := by decide +kernel
theorem dX9_swapRounds_43 : decode cX9_swapRounds 43 = .ok (.istore_n 3, 1) := by decide +kernel
theorem dX9_swapRounds_44 : decode cX9_swapRounds 44 = .ok (.aload_n 0, 1) := by decide +kernel
theorem dX9_swapRounds_45 : decode cX9_swapRounds 45 = .ok (.getfield 10, 3) := by decide +kernel
theorem dX9_swapRounds_48 : decode cX9_swapRounds 48 = .ok (.iload_n 2, 1) := by decide +kernel
theorem dX9_swapRounds_49 : decode cX9_swapRounds 49 = .ok (.invokevirtual 83, 3) := by decide +kernel
theorem dX9_swapRounds_52 : decode cX9_swapRounds 52 = .ok (.istore 4, 2) := by decide +kernel
theorem dX9_swapRounds_54 : decode cX9_swapRounds 54 = .ok (.aload_n 0, 1) := by decide +kernel
theorem dX9_swapRounds_55 : decode cX9_swapRounds 55 = .ok (.getfield 10, 3) := by decide +kernel
theorem dX9_swapRounds_58 : decode cX9_swapRounds 58 = .ok (.iload_n 1, 1) := by decide +kernel
theorem dX9_swapRounds_59 : decode cX9_swapRounds 59 = .ok (.iload 4, 2) := by decide +kernel
theorem dX9_swapRounds_61 : decode cX9_swapRounds 61 = .ok (.invokevirtual 93, 3) := by decide +kernel
theorem dX9_swapRounds_64 : decode cX9_swapRounds 64 = .ok (.aload_n 0, 1) := by decide +kernel
theorem dX9_swapRounds_65 : decode cX9_swapRounds 65 = .ok (.getfield 10, 3) := by decide +kernel
theorem dX9_swapRounds_68 : decode cX9_swapRounds 68 = .ok (.iload_n 2, 1) := by decide +kernel
theorem dX9_swapRounds_69 : decode cX9_swapRounds 69 = .ok (.iload_n 3, 1) := by decide +kernel
theorem dX9_swapRounds_70 : decode cX9_swapRounds 70 = .ok (.invokevirtual 93, 3) := by decide +kernel
theorem dX9_swapRounds_73 : decode cX9_swapRounds 73 = .ok (.iload_n 3, 1) := by decide +kernel
theorem dX9_swapRounds_74 : decode cX9_swapRounds 74 = .ok (.iload 4, 2) := by decide +kernel
theorem dX9_swapRounds_76 : decode cX9_swapRounds 76 = .ok (.ixor, 1) := by decide +kernel
theorem dX9_swapRounds_77 : decode cX9_swapRounds 77 = .ok (.invokestatic 97, 3) := by decide +kernel
theorem dX9_swapRounds_80 : decode cX9_swapRounds 80 = .ok (.ireturn, 1) := by decide +kernel
set_option maxRecDepth 20000 in
theorem ggX9_addAdversary_X7_hasNode : GoodIn wsX9_addAdversary wsX7_hasNode := goodIn_r _ [8, 9, 131, 132, 133, 134] (by decide +kernel) (by decide +kernel)
set_option maxRecDepth 20000 in
theorem gX9_addAdversary_X7_hasNode : GoodIn wsX9_addAdversary (wsV RX9 109 RX7 yX7_hasNode wsX7_hasNode) := goodIn_app (goodIn_of _ (by decide +kernel)) ggX9_addAdversary_X7_hasNode
set_option maxRecDepth 20000 in
theorem ggX9_addAdversary_X7_isFull : GoodIn wsX9_addAdversary wsX7_isFull := goodIn_r _ [13, 14, 131, 132, 133, 134] (by decide +kernel) (by decide +kernel)
set_option maxRecDepth 20000 in
theorem gX9_addAdversary_X7_isFull : GoodIn wsX9_addAdversary (wsV RX9 69 RX7 yX7_isFull wsX7_isFull) := goodIn_app (goodIn_of _ (by decide +kernel)) ggX9_addAdversary_X7_isFull
set_option maxRecDepth 20000 in
theorem ggX9_addAdversary_X3_begin : GoodIn wsX9_addAdversary wsX3_begin := goodIn_r _ [19, 20, 21, 22, 23, 24, 25, 135, 136, 137, 138] (by decide +kernel) (by decide +kernel)
set_option maxRecDepth 20000 in
theorem gX9_addAdversary_X3_begin : GoodIn wsX9_addAdversary (wsV RX9 112 RX3 yX3_begin wsX3_begin) := goodIn_app (goodIn_of _ (by decide +kernel)) ggX9_addAdversary_X3_begin
set_option maxRecDepth 20000 in
theorem ggX9_addAdversary_X7_rounds : GoodIn wsX9_addAdversary wsX7_rounds := goodIn_r _ [29, 14, 131, 132, 133, 134] (by decide +kernel) (by decide +kernel)
set_option maxRecDepth 20000 in
theorem gX9_addAdversary_X7_rounds : GoodIn wsX9_addAdversary (wsV RX9 76 RX7 yX7_rounds wsX7_rounds) := goodIn_app (goodIn_of _ (by decide +kernel)) ggX9_addAdversary_X7_rounds
set_option maxRecDepth 20000 in
theorem ggX9_addAdversary_X3_advanceBy : GoodIn wsX9_addAdversary wsX3_advanceBy := goodIn_r _ [33, 34, 35, 36, 18, 37, 38, 20, 39, 21, 40, 41, 42, 7, 43, 14, 44, 45, 46, 47, 48, 9, 49, 50, 51, 52, 53, 54, 55, 135, 136, 137, 138, 131, 132, 133, 134] (by decide +kernel) (by decide +kernel)
set_option maxRecDepth 20000 in
theorem gX9_addAdversary_X3_advanceBy : GoodIn wsX9_addAdversary (wsV RX9 115 RX3 yX3_advanceBy wsX3_advanceBy) := goodIn_app (goodIn_of _ (by decide +kernel)) ggX9_addAdversary_X3_advanceBy
set_option maxRecDepth 20000 in
theorem ggX9_addAdversary_X3_knowersOf : GoodIn wsX9_addAdversary wsX3_knowersOf := goodIn_r _ [59, 38, 21, 45, 46, 47, 7, 48, 9, 60, 61, 24, 62, 22, 23, 25, 135, 136, 137, 138, 131, 132, 133, 134] (by decide +kernel) (by decide +kernel)
set_option maxRecDepth 20000 in
theorem gX9_addAdversary_X3_knowersOf : GoodIn wsX9_addAdversary (wsV RX9 118 RX3 yX3_knowersOf wsX3_knowersOf) := goodIn_app (goodIn_of _ (by decide +kernel)) ggX9_addAdversary_X3_knowersOf
set_option maxRecDepth 20000 in
theorem ggX9_addAdversary_X7_nodes : GoodIn wsX9_addAdversary wsX7_nodes := goodIn_r _ [48, 9, 131, 132, 133, 134] (by decide +kernel) (by decide +kernel)
set_option maxRecDepth 20000 in
theorem gX9_addAdversary_X7_nodes : GoodIn wsX9_addAdversary (wsV RX9 58 RX7 yX7_nodes wsX7_nodes) := goodIn_app (goodIn_of _ (by decide +kernel)) ggX9_addAdversary_X7_nodes
set_option maxRecDepth 20000 in
theorem ggX9_addAdversary_X0_edges : GoodIn wsX9_addAdversary wsX0_edges := goodIn_r _ [67, 68, 69, 24, 70, 71, 72, 66, 73, 74, 75, 76, 77, 61, 62, 78, 54, 51, 55, 79, 80, 81, 82, 83, 84, 85, 86, 87, 88, 89, 90, 91, 53, 92, 93, 94, 95] (by decide +kernel) (by decide +kernel)
set_option maxRecDepth 20000 in
theorem gX9_addAdversary_X0_edges : GoodIn wsX9_addAdversary (va_wsS RX9 121 yX0_edges wsX0_edges) := goodIn_app (goodIn_of _ (by decide +kernel)) ggX9_addAdversary_X0_edges
set_option maxRecDepth 20000 in
theorem ggX9_addAdversary_X5_save : GoodIn wsX9_addAdversary wsX5_save := goodIn_r _ [100, 101, 102, 103, 104, 105, 99, 106, 107, 108, 109, 7, 110, 9, 14, 44, 111, 139, 140, 131, 132, 133, 134] (by decide +kernel) (by decide +kernel)
set_option maxRecDepth 20000 in
theorem gX9_addAdversary_X5_save : GoodIn wsX9_addAdversary (wsV RX9 62 RX5 yX5_save wsX5_save) := goodIn_app (goodIn_of _ (by decide +kernel)) ggX9_addAdversary_X5_save
set_option maxRecDepth 20000 in
theorem ggX9_addAdversary_X7_append : GoodIn wsX9_addAdversary wsX7_append := goodIn_r _ [115, 44, 14, 116, 11, 12, 7, 13, 131, 132, 133, 134] (by decide +kernel) (by decide +kernel)
set_option maxRecDepth 20000 in
theorem gX9_addAdversary_X7_append : GoodIn wsX9_addAdversary (wsV RX9 73 RX7 yX7_append wsX7_append) := goodIn_app (goodIn_of _ (by decide +kernel)) ggX9_addAdversary_X7_append
set_option maxRecDepth 20000 in
theorem ggX9_addAdversary_J6_bitCount_0f7a4 : GoodIn wsX9_addAdversary wsJ6_bitCount_0f7a4 := goodIn_r _ [120, 121, 122, 123] (by decide +kernel) (by decide +kernel)
set_option maxRecDepth 20000 in
theorem gX9_addAdversary_J6_bitCount_0f7a4 : GoodIn wsX9_addAdversary (va_wsS RX9 97 yJ6_bitCount_0f7a4 wsJ6_bitCount_0f7a4) := goodIn_app (goodIn_of _ (by decide +kernel)) ggX9_addAdversary_J6_bitCount_0f7a4
theorem dX9_addAdversary_0 : decode cX9_addAdversary 0 = .ok (.iload_n 1, 1) := by decide +kernel
theorem dX9_addAdversary_1 : decode cX9_addAdversary 1 = .ok (.ifCond .lt 19, 3) := by decide +kernel
theorem dX9_addAdversary_4 : decode cX9_addAdversary 4 = .ok (.iload_n 1, 1) := by decide +kernel
theorem dX9_addAdversary_5 : decode cX9_addAdversary 5 = .ok (.iconst 2, 1) := by decide +kernel
theorem dX9_addAdversary_6 : decode cX9_addAdversary 6 = .ok (.if_icmp .gt 14, 3) := by decide +kernel
theorem dX9_addAdversary_9 : decode cX9_addAdversary 9 = .ok (.aload_n 0, 1) := by decide +kernel
theorem dX9_addAdversary_10 : decode cX9_addAdversary 10 = .ok (.getfield 10, 3) := by decide +kernel
theorem dX9_addAdversary_13 : decode cX9_addAdversary 13 = .ok (.iload_n 2, 1) := by decide +kernel
theorem dX9_addAdversary_14 : decode cX9_addAdversary 14 = .ok (.invokevirtual 109, 3) := by decide +kernel
theorem dX9_addAdversary_17 : decode cX9_addAdversary 17 = .ok (.ifCond .ne 5, 3) := by decide +kernel
theorem dX9_addAdversary_20 : decode cX9_addAdversary 20 = .ok (.iconst (-1), 1) := by decide +kernel
theorem dX9_addAdversary_21 : decode cX9_addAdversary 21 = .ok (.ireturn, 1) := by decide +kernel
theorem dX9_addAdversary_22 : decode cX9_addAdversary 22 = .ok (.aload_n 0, 1) := by decide +kernel
theorem dX9_addAdversary_23 : decode cX9_addAdversary 23 = .ok (.getfield 10, 3) := by decide +kernel
theorem dX9_addAdversary_26 : decode cX9_addAdversary 26 = .ok (.invokevirtual 69, 3) := by decide +kernel
theorem dX9_addAdversary_29 : decode cX9_addAdversary 29 = .ok (.ifCond .eq 6, 3) := by decide +kernel
theorem dX9_addAdversary_32 : decode cX9_addAdversary 32 = .ok (.bipush (-3), 2) := by decide +kernel
theorem dX9_addAdversary_34 : decode cX9_addAdversary 34 = .ok (.ireturn, 1) := by decide +kernel
theorem dX9_addAdversary_35 : decode cX9_addAdversary 35 = .ok (.aload_n 0, 1) := by decide +kernel
theorem dX9_addAdversary_36 : decode cX9_addAdversary 36 = .ok (.getfield 38, 3) := by decide +kernel
theorem dX9_addAdversary_39 : decode cX9_addAdversary 39 = .ok (.iconst 0, 1) := by decide +kernel
theorem dX9_addAdversary_40 : decode cX9_addAdversary 40 = .ok (.invokevirtual 112, 3) := by decide +kernel
theorem dX9_addAdversary_43 : decode cX9_addAdversary 43 = .ok (.aload_n 0, 1) := by decide +kernel
theorem dX9_addAdversary_44 : decode cX9_addAdversary 44 = .ok (.getfield 38, 3) := by decide +kernel
theorem dX9_addAdversary_47 : decode cX9_addAdversary 47 = .ok (.aload_n 0, 1) := by decide +kernel
theorem dX9_addAdversary_48 : decode cX9_addAdversary 48 = .ok (.getfield 10, 3) := by decide +kernel
theorem dX9_addAdversary_51 : decode cX9_addAdversary 51 = .ok (.invokevirtual 76, 3) := by decide +kernel
theorem dX9_addAdversary_54 : decode cX9_addAdversary 54 = .ok (.invokevirtual 115, 3) := by decide +kernel
theorem dX9_addAdversary_57 : decode cX9_addAdversary 57 = .ok (.iload_n 1, 1) := by decide +kernel
theorem dX9_addAdversary_58 : decode cX9_addAdversary 58 = .ok (.iload_n 2, 1) := by decide +kernel
theorem dX9_addAdversary_59 : decode cX9_addAdversary 59 = .ok (.aload_n 0, 1) := by decide +kernel
theorem dX9_addAdversary_60 : decode cX9_addAdversary 60 = .ok (.getfield 38, 3) := by decide +kernel
theorem dX9_addAdversary_63 : decode cX9_addAdversary 63 = .ok (.iload_n 2, 1) := by decide +kernel
theorem dX9_addAdversary_64 : decode cX9_addAdversary 64 = .ok (.invokevirtual 118, 3) := by decide +kernel
theorem dX9_addAdversary_67 : decode cX9_addAdversary 67 = .ok (.aload_n 0, 1) := by decide +kernel
theorem dX9_addAdversary_68 : decode cX9_addAdversary 68 = .ok (.getfield 10, 3) := by decide +kernel
theorem dX9_addAdversary_71 : decode cX9_addAdversary 71 = .ok (.invokevirtual 58, 3) := by decide +kernel
theorem dX9_addAdversary_74 : decode cX9_addAdversary 74 = .ok (.invokestatic 121, 3) := by decide +kernel
theorem dX9_addAdversary_77 : decode cX9_addAdversary 77 = .ok (.istore_n 3, 1) := by decide +kernel
theorem dX9_addAdversary_78 : decode cX9_addAdversary 78 = .ok (.aload_n 0, 1) := by decide +kernel
theorem dX9_addAdversary_79 : decode cX9_addAdversary 79 = .ok (.getfield 22, 3) := by decide +kernel
theorem dX9_addAdversary_82 : decode cX9_addAdversary 82 = .ok (.aload_n 0, 1) := by decide +kernel
theorem dX9_addAdversary_83 : decode cX9_addAdversary 83 = .ok (.getfield 10, 3) := by decide +kernel
theorem dX9_addAdversary_86 : decode cX9_addAdversary 86 = .ok (.invokevirtual 62, 3) := by decide +kernel
theorem dX9_addAdversary_89 : decode cX9_addAdversary 89 = .ok (.aload_n 0, 1) := by decide +kernel
theorem dX9_addAdversary_90 : decode cX9_addAdversary 90 = .ok (.getfield 10, 3) := by decide +kernel
theorem dX9_addAdversary_93 : decode cX9_addAdversary 93 = .ok (.iload_n 3, 1) := by decide +kernel
theorem dX9_addAdversary_94 : decode cX9_addAdversary 94 = .ok (.invokevirtual 73, 3) := by decide +kernel
theorem dX9_addAdversary_97 : decode cX9_addAdversary 97 = .ok (.iload_n 3, 1) := by decide +kernel
theorem dX9_addAdversary_98 : decode cX9_addAdversary 98 = .ok (.invokestatic 97, 3) := by decide +kernel
theorem dX9_addAdversary_101 : decode cX9_addAdversary 101 = .ok (.ireturn, 1) := by decide +kernel
set_option maxRecDepth 20000 in
theorem ggX9_setValue_X7_hasNode : GoodIn wsX9_setValue wsX7_hasNode := goodIn_r _ [7, 8, 43, 44, 45, 46] (by decide +kernel) (by decide +kernel)
set_option maxRecDepth 20000 in
theorem gX9_setValue_X7_hasNode : GoodIn wsX9_setValue (wsV RX9 109 RX7 yX7_hasNode wsX7_hasNode) := goodIn_app (goodIn_of _ (by decide +kernel)) ggX9_setValue_X7_hasNode
set_option maxRecDepth 20000 in
theorem ggX9_setValue_X7_valueOf : GoodIn wsX9_setValue wsX7_valueOf := goodIn_r _ [12, 13, 14, 4, 5, 6, 7, 8, 43, 44, 45, 46] (by decide +kernel) (by decide +kernel)
set_option maxRecDepth 20000 in
theorem gX9_setValue_X7_valueOf : GoodIn wsX9_setValue (wsV RX9 127 RX7 yX7_valueOf wsX7_valueOf) := goodIn_app (goodIn_of _ (by decide +kernel)) ggX9_setValue_X7_valueOf
set_option maxRecDepth 20000 in
theorem ggX9_setValue_X5_save : GoodIn wsX9_setValue wsX5_save := goodIn_r _ [19, 20, 21, 22, 23, 24, 18, 25, 26, 27, 28, 6, 29, 8, 30, 31, 13, 47, 48, 43, 44, 45, 46] (by decide +kernel) (by decide +kernel)
set_option maxRecDepth 20000 in
theorem gX9_setValue_X5_save : GoodIn wsX9_setValue (wsV RX9 62 RX5 yX5_save wsX5_save) := goodIn_app (goodIn_of _ (by decide +kernel)) ggX9_setValue_X5_save
set_option maxRecDepth 20000 in
theorem ggX9_setValue_X7_give : GoodIn wsX9_setValue wsX7_give := goodIn_r _ [35, 13, 14, 4, 5, 6, 7, 8, 43, 44, 45, 46] (by decide +kernel) (by decide +kernel)
set_option maxRecDepth 20000 in
theorem gX9_setValue_X7_give : GoodIn wsX9_setValue (wsV RX9 130 RX7 yX7_give wsX7_give) := goodIn_app (goodIn_of _ (by decide +kernel)) ggX9_setValue_X7_give
theorem dX9_setValue_0 : decode cX9_setValue 0 = .ok (.aload_n 0, 1) := by decide +kernel
theorem dX9_setValue_1 : decode cX9_setValue 1 = .ok (.getfield 10, 3) := by decide +kernel
theorem dX9_setValue_4 : decode cX9_setValue 4 = .ok (.iload_n 1, 1) := by decide +kernel
theorem dX9_setValue_5 : decode cX9_setValue 5 = .ok (.invokevirtual 109, 3) := by decide +kernel
theorem dX9_setValue_8 : decode cX9_setValue 8 = .ok (.ifCond .eq 13, 3) := by decide +kernel
theorem dX9_setValue_11 : decode cX9_setValue 11 = .ok (.iload_n 2, 1) := by decide +kernel
theorem dX9_setValue_12 : decode cX9_setValue 12 = .ok (.ifCond .lt 9, 3) := by decide +kernel
theorem dX9_setValue_15 : decode cX9_setValue 15 = .ok (.iload_n 2, 1) := by decide +kernel
theorem dX9_setValue_16 : decode cX9_setValue 16 = .ok (.bipush 99, 2) := by decide +kernel
theorem dX9_setValue_18 : decode cX9_setValue 18 = .ok (.if_icmp .le 5, 3) := by decide +kernel
theorem dX9_setValue_21 : decode cX9_setValue 21 = .ok (.iconst (-1), 1) := by decide +kernel
theorem dX9_setValue_22 : decode cX9_setValue 22 = .ok (.ireturn, 1) := by decide +kernel
theorem dX9_setValue_23 : decode cX9_setValue 23 = .ok (.aload_n 0, 1) := by decide +kernel
theorem dX9_setValue_24 : decode cX9_setValue 24 = .ok (.getfield 10, 3) := by decide +kernel
theorem dX9_setValue_27 : decode cX9_setValue 27 = .ok (.iload_n 1, 1) := by decide +kernel
theorem dX9_setValue_28 : decode cX9_setValue 28 = .ok (.invokevirtual 127, 3) := by decide +kernel
theorem dX9_setValue_31 : decode cX9_setValue 31 = .ok (.istore_n 3, 1) := by decide +kernel
theorem dX9_setValue_32 : decode cX9_setValue 32 = .ok (.aload_n 0, 1) := by decide +kernel
theorem dX9_setValue_33 : decode cX9_setValue 33 = .ok (.getfield 22, 3) := by decide +kernel
theorem dX9_setValue_36 : decode cX9_setValue 36 = .ok (.aload_n 0, 1) := by decide +kernel
theorem dX9_setValue_37 : decode cX9_setValue 37 = .ok (.getfield 10, 3) := by decide +kernel
theorem dX9_setValue_40 : decode cX9_setValue 40 = .ok (.invokevirtual 62, 3) := by decide +kernel
theorem dX9_setValue_43 : decode cX9_setValue 43 = .ok (.aload_n 0, 1) := by decide +kernel
theorem dX9_setValue_44 : decode cX9_setValue 44 = .ok (.getfield 10, 3) := by decide +kernel
theorem dX9_setValue_47 : decode cX9_setValue 47 = .ok (.iload_n 1, 1) := by decide +kernel
theorem dX9_setValue_48 : decode cX9_setValue 48 = .ok (.iload_n 2, 1) := by decide +kernel
theorem dX9_setValue_49 : decode cX9_setValue 49 = .ok (.invokevirtual 130, 3) := by decide +kernel
theorem dX9_setValue_52 : decode cX9_setValue 52 = .ok (.iload_n 3, 1) := by decide +kernel
theorem dX9_setValue_53 : decode cX9_setValue 53 = .ok (.ireturn, 1) := by decide +kernel
set_option maxRecDepth 20000 in
theorem ggX9_edge_X7_hasPlace : GoodIn wsX9_edge wsX7_hasPlace := goodIn_r _ [6, 7, 8, 9, 5, 10, 11, 12, 13, 14, 15, 16, 40, 41, 42, 43] (by decide +kernel) (by decide +kernel)
set_option maxRecDepth 20000 in
theorem gX9_edge_X7_hasPlace : GoodIn wsX9_edge (wsV RX9 79 RX7 yX7_hasPlace wsX7_hasPlace) := goodIn_app (goodIn_of _ (by decide +kernel)) ggX9_edge_X7_hasPlace
set_option maxRecDepth 20000 in
theorem ggX9_edge_X7_edgesOf : GoodIn wsX9_edge wsX7_edgesOf := goodIn_r _ [20, 21, 7, 8, 9, 5, 10, 11, 40, 41, 42, 43] (by decide +kernel) (by decide +kernel)
set_option maxRecDepth 20000 in
theorem gX9_edge_X7_edgesOf : GoodIn wsX9_edge (wsV RX9 83 RX7 yX7_edgesOf wsX7_edgesOf) := goodIn_app (goodIn_of _ (by decide +kernel)) ggX9_edge_X7_edgesOf
set_option maxRecDepth 20000 in
theorem ggX9_edge_X2_connects : GoodIn wsX9_edge wsX2_connects := goodIn_r _ [25, 26, 27, 24, 28] (by decide +kernel) (by decide +kernel)
set_option maxRecDepth 20000 in
theorem gX9_edge_X2_connects : GoodIn wsX9_edge (va_wsS RX9 133 yX2_connects wsX2_connects) := goodIn_app (goodIn_of _ (by decide +kernel)) ggX9_edge_X2_connects
set_option maxRecDepth 20000 in
theorem ggX9_edge_X9_oneIf : GoodIn wsX9_edge wsX9_oneIf := goodIn_r _ [32] (by decide +kernel) (by decide +kernel)
set_option maxRecDepth 20000 in
theorem gX9_edge_X9_oneIf : GoodIn wsX9_edge (va_wsS RX9 136 yX9_oneIf wsX9_oneIf) := goodIn_app (goodIn_of _ (by decide +kernel)) ggX9_edge_X9_oneIf
theorem dX9_edge_0 : decode cX9_edge 0 = .ok (.aload_n 0, 1) := by decide +kernel
theorem dX9_edge_1 : decode cX9_edge 1 = .ok (.getfield 10, 3) := by decide +kernel
theorem dX9_edge_4 : decode cX9_edge 4 = .ok (.iload_n 1, 1) := by decide +kernel
theorem dX9_edge_5 : decode cX9_edge 5 = .ok (.iload_n 2, 1) := by decide +kernel
theorem dX9_edge_6 : decode cX9_edge 6 = .ok (.iload_n 3, 1) := by decide +kernel
theorem dX9_edge_7 : decode cX9_edge 7 = .ok (.invokevirtual 79, 3) := by decide +kernel
theorem dX9_edge_10 : decode cX9_edge 10 = .ok (.ifCond .ne 5, 3) := by decide +kernel
theorem dX9_edge_13 : decode cX9_edge 13 = .ok (.iconst (-1), 1) := by decide +kernel
theorem dX9_edge_14 : decode cX9_edge 14 = .ok (.ireturn, 1) := by decide +kernel
theorem dX9_edge_15 : decode cX9_edge 15 = .ok (.aload_n 0, 1) := by decide +kernel
theorem dX9_edge_16 : decode cX9_edge 16 = .ok (.getfield 10, 3) := by decide +kernel
theorem dX9_edge_19 : decode cX9_edge 19 = .ok (.iload_n 1, 1) := by decide +kernel
theorem dX9_edge_20 : decode cX9_edge 20 = .ok (.invokevirtual 83, 3) := by decide +kernel
theorem dX9_edge_23 : decode cX9_edge 23 = .ok (.iload_n 2, 1) := by decide +kernel
theorem dX9_edge_24 : decode cX9_edge 24 = .ok (.iload_n 3, 1) := by decide +kernel
theorem dX9_edge_25 : decode cX9_edge 25 = .ok (.invokestatic 133, 3) := by decide +kernel
theorem dX9_edge_28 : decode cX9_edge 28 = .ok (.invokestatic 136, 3) := by decide +kernel
theorem dX9_edge_31 : decode cX9_edge 31 = .ok (.ireturn, 1) := by decide +kernel
set_option maxRecDepth 20000 in
theorem ggX9_count_X7_nodes : GoodIn wsX9_count wsX7_nodes := goodIn_r _ [8, 9, 76, 77, 78, 79] (by decide +kernel) (by decide +kernel)
set_option maxRecDepth 20000 in
theorem gX9_count_X7_nodes : GoodIn wsX9_count (wsV RX9 58 RX7 yX7_nodes wsX7_nodes) := goodIn_app (goodIn_of _ (by decide +kernel)) ggX9_count_X7_nodes
set_option maxRecDepth 20000 in
theorem ggX9_count_X7_rounds : GoodIn wsX9_count wsX7_rounds := goodIn_r _ [13, 14, 76, 77, 78, 79] (by decide +kernel) (by decide +kernel)
set_option maxRecDepth 20000 in
theorem gX9_count_X7_rounds : GoodIn wsX9_count (wsV RX9 76 RX7 yX7_rounds wsX7_rounds) := goodIn_app (goodIn_of _ (by decide +kernel)) ggX9_count_X7_rounds
set_option maxRecDepth 20000 in
theorem ggX9_count_X7_edgesInAll : GoodIn wsX9_count wsX7_edgesInAll := goodIn_r _ [18, 14, 19, 20, 21, 22, 23, 24, 25, 26, 76, 77, 78, 79] (by decide +kernel) (by decide +kernel)
set_option maxRecDepth 20000 in
theorem gX9_count_X7_edgesInAll : GoodIn wsX9_count (wsV RX9 140 RX7 yX7_edgesInAll wsX7_edgesInAll) := goodIn_app (goodIn_of _ (by decide +kernel)) ggX9_count_X7_edgesInAll
set_option maxRecDepth 20000 in
theorem ggX9_count_X7_connectedRounds : GoodIn wsX9_count wsX7_connectedRounds := goodIn_r _ [30, 14, 19, 9, 31, 32, 33, 34, 35, 36, 37, 38, 39, 40, 41, 42, 43, 44, 45, 46, 47, 48, 49, 50, 51, 52, 53, 54, 55, 56, 76, 77, 78, 79] (by decide +kernel) (by decide +kernel)
set_option maxRecDepth 20000 in
theorem gX9_count_X7_connectedRounds : GoodIn wsX9_count (wsV RX9 143 RX7 yX7_connectedRounds wsX7_connectedRounds) := goodIn_app (goodIn_of _ (by decide +kernel)) ggX9_count_X7_connectedRounds
set_option maxRecDepth 20000 in
theorem ggX9_count_X8_length : GoodIn wsX9_count wsX8_length := goodIn_r _ [61, 62, 80, 81, 82, 83, 84] (by decide +kernel) (by decide +kernel)
set_option maxRecDepth 20000 in
theorem gX9_count_X8_length : GoodIn wsX9_count (wsV RX9 146 RX8 yX8_length wsX8_length) := goodIn_app (goodIn_of _ (by decide +kernel)) ggX9_count_X8_length
set_option maxRecDepth 20000 in
theorem ggX9_count_X5_size : GoodIn wsX9_count wsX5_size := goodIn_r _ [67, 68, 85, 86] (by decide +kernel) (by decide +kernel)
set_option maxRecDepth 20000 in
theorem gX9_count_X5_size : GoodIn wsX9_count (wsV RX9 149 RX5 yX5_size wsX5_size) := goodIn_app (goodIn_of _ (by decide +kernel)) ggX9_count_X5_size
theorem dX9_count_0 : decode cX9_count 0 = .ok (.iload_n 1, 1) := by decide +kernel
theorem dX9_count_1 : decode cX9_count 1 = .ok (.tableswitch 87 0 5 #[39, 47, 55, 63, 71, 79], 39) := by decide +kernel
theorem dX9_count_40 : decode cX9_count 40 = .ok (.aload_n 0, 1) := by decide +kernel
theorem dX9_count_41 : decode cX9_count 41 = .ok (.getfield 10, 3) := by decide +kernel
theorem dX9_count_44 : decode cX9_count 44 = .ok (.invokevirtual 58, 3) := by decide +kernel
theorem dX9_count_47 : decode cX9_count 47 = .ok (.ireturn, 1) := by decide +kernel
theorem dX9_count_48 : decode cX9_count 48 = .ok (.aload_n 0, 1) := by decide +kernel
theorem dX9_count_49 : decode cX9_count 49 = .ok (.getfield 10, 3) := by decide +kernel
theorem dX9_count_52 : decode cX9_count 52 = .ok (.invokevirtual 76, 3) := by decide +kernel
theorem dX9_count_55 : decode cX9_count 55 = .ok (.ireturn, 1) := by decide +kernel
theorem dX9_count_56 : decode cX9_count 56 = .ok (.aload_n 0, 1) := by decide +kernel
theorem dX9_count_57 : decode cX9_count 57 = .ok (.getfield 10, 3) := by decide +kernel
theorem dX9_count_60 : decode cX9_count 60 = .ok (.invokevirtual 140, 3) := by decide +kernel
theorem dX9_count_63 : decode cX9_count 63 = .ok (.ireturn, 1) := by decide +kernel
theorem dX9_count_64 : decode cX9_count 64 = .ok (.aload_n 0, 1) := by decide +kernel
theorem dX9_count_65 : decode cX9_count 65 = .ok (.getfield 10, 3) := by decide +kernel
theorem dX9_count_68 : decode cX9_count 68 = .ok (.invokevirtual 143, 3) := by decide +kernel
theorem dX9_count_71 : decode cX9_count 71 = .ok (.ireturn, 1) := by decide +kernel
theorem dX9_count_72 : decode cX9_count 72 = .ok (.aload_n 0, 1) := by decide +kernel
theorem dX9_count_73 : decode cX9_count 73 = .ok (.getfield 29, 3) := by decide +kernel
theorem dX9_count_76 : decode cX9_count 76 = .ok (.invokevirtual 146, 3) := by decide +kernel
theorem dX9_count_79 : decode cX9_count 79 = .ok (.ireturn, 1) := by decide +kernel
theorem dX9_count_80 : decode cX9_count 80 = .ok (.aload_n 0, 1) := by decide +kernel
theorem dX9_count_81 : decode cX9_count 81 = .ok (.getfield 22, 3) := by decide +kernel
theorem dX9_count_84 : decode cX9_count 84 = .ok (.invokevirtual 149, 3) := by decide +kernel
theorem dX9_count_87 : decode cX9_count 87 = .ok (.ireturn, 1) := by decide +kernel
theorem dX9_count_88 : decode cX9_count 88 = .ok (.iconst (-1), 1) := by decide +kernel
theorem dX9_count_89 : decode cX9_count 89 = .ok (.ireturn, 1) := by decide +kernel
set_option maxRecDepth 20000 in
theorem ggX9_value_X7_hasNode : GoodIn wsX9_value wsX7_hasNode := goodIn_r _ [6, 7, 21, 22, 23, 24] (by decide +kernel) (by decide +kernel)
set_option maxRecDepth 20000 in
theorem gX9_value_X7_hasNode : GoodIn wsX9_value (wsV RX9 109 RX7 yX7_hasNode wsX7_hasNode) := goodIn_app (goodIn_of _ (by decide +kernel)) ggX9_value_X7_hasNode
set_option maxRecDepth 20000 in
theorem ggX9_value_X7_valueOf : GoodIn wsX9_value wsX7_valueOf := goodIn_r _ [11, 12, 13, 3, 4, 5, 6, 7, 21, 22, 23, 24] (by decide +kernel) (by decide +kernel)
set_option maxRecDepth 20000 in
theorem gX9_value_X7_valueOf : GoodIn wsX9_value (wsV RX9 127 RX7 yX7_valueOf wsX7_valueOf) := goodIn_app (goodIn_of _ (by decide +kernel)) ggX9_value_X7_valueOf
theorem dX9_value_0 : decode cX9_value 0 = .ok (.aload_n 0, 1) := by decide +kernel
theorem dX9_value_1 : decode cX9_value 1 = .ok (.getfield 10, 3) := by decide +kernel
theorem dX9_value_4 : decode cX9_value 4 = .ok (.iload_n 1, 1) := by decide +kernel
theorem dX9_value_5 : decode cX9_value 5 = .ok (.invokevirtual 109, 3) := by decide +kernel
theorem dX9_value_8 : decode cX9_value 8 = .ok (.ifCond .ne 5, 3) := by decide +kernel
theorem dX9_value_11 : decode cX9_value 11 = .ok (.iconst (-1), 1) := by decide +kernel
theorem dX9_value_12 : decode cX9_value 12 = .ok (.ireturn, 1) := by decide +kernel
theorem dX9_value_13 : decode cX9_value 13 = .ok (.aload_n 0, 1) := by decide +kernel
theorem dX9_value_14 : decode cX9_value 14 = .ok (.getfield 10, 3) := by decide +kernel
theorem dX9_value_17 : decode cX9_value 17 = .ok (.iload_n 1, 1) := by decide +kernel
theorem dX9_value_18 : decode cX9_value 18 = .ok (.invokevirtual 127, 3) := by decide +kernel
theorem dX9_value_21 : decode cX9_value 21 = .ok (.ireturn, 1) := by decide +kernel
set_option maxRecDepth 20000 in
theorem ggX9_appendCharacter_X8_isFull : GoodIn wsX9_appendCharacter wsX8_isFull := goodIn_r _ [6, 7, 25, 26, 27, 28, 29] (by decide +kernel) (by decide +kernel)
set_option maxRecDepth 20000 in
theorem gX9_appendCharacter_X8_isFull : GoodIn wsX9_appendCharacter (wsV RX9 152 RX8 yX8_isFull wsX8_isFull) := goodIn_app (goodIn_of _ (by decide +kernel)) ggX9_appendCharacter_X8_isFull
set_option maxRecDepth 20000 in
theorem ggX9_appendCharacter_X8_append : GoodIn wsX9_appendCharacter wsX8_append := goodIn_r _ [11, 12, 7, 13, 3, 4, 5, 6, 25, 26, 27, 28, 29] (by decide +kernel) (by decide +kernel)
set_option maxRecDepth 20000 in
theorem gX9_appendCharacter_X8_append : GoodIn wsX9_appendCharacter (wsV RX9 153 RX8 yX8_append wsX8_append) := goodIn_app (goodIn_of _ (by decide +kernel)) ggX9_appendCharacter_X8_append
set_option maxRecDepth 20000 in
theorem ggX9_appendCharacter_X8_length : GoodIn wsX9_appendCharacter wsX8_length := goodIn_r _ [17, 7, 25, 26, 27, 28, 29] (by decide +kernel) (by decide +kernel)
set_option maxRecDepth 20000 in
theorem gX9_appendCharacter_X8_length : GoodIn wsX9_appendCharacter (wsV RX9 146 RX8 yX8_length wsX8_length) := goodIn_app (goodIn_of _ (by decide +kernel)) ggX9_appendCharacter_X8_length
theorem dX9_appendCharacter_0 : decode cX9_appendCharacter 0 = .ok (.iload_n 1, 1) := by decide +kernel
theorem dX9_appendCharacter_1 : decode cX9_appendCharacter 1 = .ok (.ifCond .lt 10, 3) := by decide +kernel
theorem dX9_appendCharacter_4 : decode cX9_appendCharacter 4 = .ok (.iload_n 1, 1) := by decide +kernel
theorem dX9_appendCharacter_5 : decode cX9_appendCharacter 5 = .ok (.sipush 255, 3) := by decide +kernel
theorem dX9_appendCharacter_8 : decode cX9_appendCharacter 8 = .ok (.if_icmp .le 5, 3) := by decide +kernel
theorem dX9_appendCharacter_11 : decode cX9_appendCharacter 11 = .ok (.iconst (-1), 1) := by decide +kernel
theorem dX9_appendCharacter_12 : decode cX9_appendCharacter 12 = .ok (.ireturn, 1) := by decide +kernel
theorem dX9_appendCharacter_13 : decode cX9_appendCharacter 13 = .ok (.aload_n 0, 1) := by decide +kernel
theorem dX9_appendCharacter_14 : decode cX9_appendCharacter 14 = .ok (.getfield 29, 3) := by decide +kernel
theorem dX9_appendCharacter_17 : decode cX9_appendCharacter 17 = .ok (.invokevirtual 152, 3) := by decide +kernel
theorem dX9_appendCharacter_20 : decode cX9_appendCharacter 20 = .ok (.ifCond .eq 6, 3) := by decide +kernel
theorem dX9_appendCharacter_23 : decode cX9_appendCharacter 23 = .ok (.bipush (-3), 2) := by decide +kernel
theorem dX9_appendCharacter_25 : decode cX9_appendCharacter 25 = .ok (.ireturn, 1) := by decide +kernel
theorem dX9_appendCharacter_26 : decode cX9_appendCharacter 26 = .ok (.aload_n 0, 1) := by decide +kernel
theorem dX9_appendCharacter_27 : decode cX9_appendCharacter 27 = .ok (.getfield 29, 3) := by decide +kernel
theorem dX9_appendCharacter_30 : decode cX9_appendCharacter 30 = .ok (.iload_n 1, 1) := by decide +kernel
theorem dX9_appendCharacter_31 : decode cX9_appendCharacter 31 = .ok (.invokevirtual 153, 3) := by decide +kernel
theorem dX9_appendCharacter_34 : decode cX9_appendCharacter 34 = .ok (.aload_n 0, 1) := by decide +kernel
theorem dX9_appendCharacter_35 : decode cX9_appendCharacter 35 = .ok (.getfield 29, 3) := by decide +kernel
theorem dX9_appendCharacter_38 : decode cX9_appendCharacter 38 = .ok (.invokevirtual 146, 3) := by decide +kernel
theorem dX9_appendCharacter_41 : decode cX9_appendCharacter 41 = .ok (.ireturn, 1) := by decide +kernel
set_option maxRecDepth 20000 in
theorem ggX9_clearText_X8_length : GoodIn wsX9_clearText wsX8_length := goodIn_r _ [6, 7, 19, 20, 21, 22, 23] (by decide +kernel) (by decide +kernel)
set_option maxRecDepth 20000 in
theorem gX9_clearText_X8_length : GoodIn wsX9_clearText (wsV RX9 146 RX8 yX8_length wsX8_length) := goodIn_app (goodIn_of _ (by decide +kernel)) ggX9_clearText_X8_length
set_option maxRecDepth 20000 in
theorem ggX9_clearText_X8_clear : GoodIn wsX9_clearText wsX8_clear := goodIn_r _ [11, 7, 19, 20, 21, 22, 23] (by decide +kernel) (by decide +kernel)
set_option maxRecDepth 20000 in
theorem gX9_clearText_X8_clear : GoodIn wsX9_clearText (wsV RX9 154 RX8 yX8_clear wsX8_clear) := goodIn_app (goodIn_of _ (by decide +kernel)) ggX9_clearText_X8_clear
theorem dX9_clearText_0 : decode cX9_clearText 0 = .ok (.aload_n 0, 1) := by decide +kernel
theorem dX9_clearText_1 : decode cX9_clearText 1 = .ok (.getfield 29, 3) := by decide +kernel
theorem dX9_clearText_4 : decode cX9_clearText 4 = .ok (.invokevirtual 146, 3) := by decide +kernel
theorem dX9_clearText_7 : decode cX9_clearText 7 = .ok (.istore_n 1, 1) := by decide +kernel
theorem dX9_clearText_8 : decode cX9_clearText 8 = .ok (.aload_n 0, 1) := by decide +kernel
theorem dX9_clearText_9 : decode cX9_clearText 9 = .ok (.getfield 29, 3) := by decide +kernel
theorem dX9_clearText_12 : decode cX9_clearText 12 = .ok (.invokevirtual 154, 3) := by decide +kernel
theorem dX9_clearText_15 : decode cX9_clearText 15 = .ok (.iload_n 1, 1) := by decide +kernel
theorem dX9_clearText_16 : decode cX9_clearText 16 = .ok (.ireturn, 1) := by decide +kernel
set_option maxRecDepth 20000 in
theorem ggX9_load_X8_readInto : GoodIn wsX9_load wsX8_readInto := goodIn_r _ [9, 10, 11, 12, 13, 14, 15, 16, 17, 18, 19, 20, 21, 22, 23, 8, 24, 25, 26, 27, 28, 29, 30, 31, 32, 33, 34, 35, 36, 37, 38, 39, 40, 41, 42, 43, 44, 45, 46, 47, 48, 49, 50, 51, 52, 53, 54, 55, 56, 57, 58, 59, 60, 61, 62, 63, 64, 65, 66, 67, 68, 69, 70, 71, 72, 73, 74, 75, 76, 77, 78, 79, 80, 81, 82, 83, 84, 85, 86, 87, 88, 89, 90, 91, 92, 93, 94, 95, 96, 97, 98, 99, 100, 101, 102, 103, 104, 105, 106, 107, 108, 109, 110, 111, 112, 113, 114, 115, 116, 117, 118, 119, 120, 121, 122, 123, 124, 125, 126, 127, 128, 129, 130, 131, 132, 133, 134, 135, 136, 137, 138, 139, 140, 141, 142, 143, 144, 145, 146, 147, 148, 149, 150, 151, 152, 153, 154, 155, 156, 157, 158, 159, 160, 161, 162, 163, 164, 165, 166, 167, 168, 169, 170, 171, 172, 173, 174, 175, 176, 177, 178, 207, 208, 209, 210, 211, 212, 213, 214, 215] (by decide +kernel) (by decide +kernel)
set_option maxRecDepth 20000 in
theorem gX9_load_X8_readInto : GoodIn wsX9_load (wsV RX9 157 RX8 yX8_readInto wsX8_readInto) := goodIn_app (goodIn_of _ (by decide +kernel)) ggX9_load_X8_readInto
set_option maxRecDepth 20000 in
theorem ggX9_load_X5_save : GoodIn wsX9_load wsX5_save := goodIn_r _ [183, 184, 185, 186, 187, 188, 182, 189, 190, 191, 192, 16, 193, 18, 19, 67, 20, 216, 217, 212, 213, 214, 215] (by decide +kernel) (by decide +kernel)
set_option maxRecDepth 20000 in
theorem gX9_load_X5_save : GoodIn wsX9_load (wsV RX9 62 RX5 yX5_save wsX5_save) := goodIn_app (goodIn_of _ (by decide +kernel)) ggX9_load_X5_save
set_option maxRecDepth 20000 in
theorem ggX9_load_X7_become : GoodIn wsX9_load wsX7_become := goodIn_r _ [193, 18, 19, 67, 20, 212, 213, 214, 215] (by decide +kernel) (by decide +kernel)
set_option maxRecDepth 20000 in
theorem gX9_load_X7_become : GoodIn wsX9_load (wsV RX9 161 RX7 yX7_become wsX7_become) := goodIn_app (goodIn_of _ (by decide +kernel)) ggX9_load_X7_become
set_option maxRecDepth 20000 in
theorem ggX9_load_X8_clear : GoodIn wsX9_load wsX8_clear := goodIn_r _ [198, 25, 207, 208, 209, 210, 211] (by decide +kernel) (by decide +kernel)
set_option maxRecDepth 20000 in
theorem gX9_load_X8_clear : GoodIn wsX9_load (wsV RX9 154 RX8 yX8_clear wsX8_clear) := goodIn_app (goodIn_of _ (by decide +kernel)) ggX9_load_X8_clear
set_option maxRecDepth 20000 in
theorem ggX9_load_X7_rounds : GoodIn wsX9_load wsX7_rounds := goodIn_r _ [133, 19, 212, 213, 214, 215] (by decide +kernel) (by decide +kernel)
set_option maxRecDepth 20000 in
theorem gX9_load_X7_rounds : GoodIn wsX9_load (wsV RX9 76 RX7 yX7_rounds wsX7_rounds) := goodIn_app (goodIn_of _ (by decide +kernel)) ggX9_load_X7_rounds
theorem dX9_load_0 : decode cX9_load 0 = .ok (.aload_n 0, 1) := by decide +kernel
theorem dX9_load_1 : decode cX9_load 1 = .ok (.getfield 29, 3) := by decide +kernel
theorem dX9_load_4 : decode cX9_load 4 = .ok (.aload_n 0, 1) := by decide +kernel
theorem dX9_load_5 : decode cX9_load 5 = .ok (.getfield 16, 3) := by decide +kernel
theorem dX9_load_8 : decode cX9_load 8 = .ok (.invokevirtual 157, 3) := by decide +kernel
theorem dX9_load_11 : decode cX9_load 11 = .ok (.istore_n 1, 1) := by decide +kernel
theorem dX9_load_12 : decode cX9_load 12 = .ok (.iload_n 1, 1) := by decide +kernel
theorem dX9_load_13 : decode cX9_load 13 = .ok (.iconst (-1), 1) := by decide +kernel
theorem dX9_load_14 : decode cX9_load 14 = .ok (.if_icmp .eq 8, 3) := by decide +kernel
theorem dX9_load_17 : decode cX9_load 17 = .ok (.bipush (-10), 2) := by decide +kernel
theorem dX9_load_19 : decode cX9_load 19 = .ok (.iload_n 1, 1) := by decide +kernel
theorem dX9_load_20 : decode cX9_load 20 = .ok (.isub, 1) := by decide +kernel
theorem dX9_load_21 : decode cX9_load 21 = .ok (.ireturn, 1) := by decide +kernel
theorem dX9_load_22 : decode cX9_load 22 = .ok (.aload_n 0, 1) := by decide +kernel
theorem dX9_load_23 : decode cX9_load 23 = .ok (.getfield 22, 3) := by decide +kernel
theorem dX9_load_26 : decode cX9_load 26 = .ok (.aload_n 0, 1) := by decide +kernel
theorem dX9_load_27 : decode cX9_load 27 = .ok (.getfield 10, 3) := by decide +kernel
theorem dX9_load_30 : decode cX9_load 30 = .ok (.invokevirtual 62, 3) := by decide +kernel
theorem dX9_load_33 : decode cX9_load 33 = .ok (.aload_n 0, 1) := by decide +kernel
theorem dX9_load_34 : decode cX9_load 34 = .ok (.getfield 10, 3) := by decide +kernel
theorem dX9_load_37 : decode cX9_load 37 = .ok (.aload_n 0, 1) := by decide +kernel
theorem dX9_load_38 : decode cX9_load 38 = .ok (.getfield 16, 3) := by decide +kernel
theorem dX9_load_41 : decode cX9_load 41 = .ok (.invokevirtual 161, 3) := by decide +kernel
theorem dX9_load_44 : decode cX9_load 44 = .ok (.aload_n 0, 1) := by decide +kernel
theorem dX9_load_45 : decode cX9_load 45 = .ok (.getfield 29, 3) := by decide +kernel
theorem dX9_load_48 : decode cX9_load 48 = .ok (.invokevirtual 154, 3) := by decide +kernel
theorem dX9_load_51 : decode cX9_load 51 = .ok (.aload_n 0, 1) := by decide +kernel
theorem dX9_load_52 : decode cX9_load 52 = .ok (.getfield 10, 3) := by decide +kernel
theorem dX9_load_55 : decode cX9_load 55 = .ok (.invokevirtual 76, 3) := by decide +kernel
theorem dX9_load_58 : decode cX9_load 58 = .ok (.ireturn, 1) := by decide +kernel
set_option maxRecDepth 20000 in
theorem ggX9_round_X7_hasRound : GoodIn wsX9_round wsX7_hasRound := goodIn_r _ [6, 7, 77, 78, 79, 80] (by decide +kernel) (by decide +kernel)
set_option maxRecDepth 20000 in
theorem gX9_round_X7_hasRound : GoodIn wsX9_round (wsV RX9 102 RX7 yX7_hasRound wsX7_hasRound) := goodIn_app (goodIn_of _ (by decide +kernel)) ggX9_round_X7_hasRound
set_option maxRecDepth 20000 in
theorem ggX9_round_X7_edgesOf : GoodIn wsX9_round wsX7_edgesOf := goodIn_r _ [11, 12, 13, 3, 4, 5, 6, 7, 77, 78, 79, 80] (by decide +kernel) (by decide +kernel)
set_option maxRecDepth 20000 in
theorem gX9_round_X7_edgesOf : GoodIn wsX9_round (wsV RX9 83 RX7 yX7_edgesOf wsX7_edgesOf) := goodIn_app (goodIn_of _ (by decide +kernel)) ggX9_round_X7_edgesOf
set_option maxRecDepth 20000 in
theorem ggX9_round_J6_bitCount_0f7a4 : GoodIn wsX9_round wsJ6_bitCount_0f7a4 := goodIn_r _ [17, 18, 19, 20] (by decide +kernel) (by decide +kernel)
set_option maxRecDepth 20000 in
theorem gX9_round_J6_bitCount_0f7a4 : GoodIn wsX9_round (va_wsS RX9 97 yJ6_bitCount_0f7a4 wsJ6_bitCount_0f7a4) := goodIn_app (goodIn_of _ (by decide +kernel)) ggX9_round_J6_bitCount_0f7a4
set_option maxRecDepth 20000 in
theorem ggX9_round_X7_nodes : GoodIn wsX9_round wsX7_nodes := goodIn_r _ [24, 25, 77, 78, 79, 80] (by decide +kernel) (by decide +kernel)
set_option maxRecDepth 20000 in
theorem gX9_round_X7_nodes : GoodIn wsX9_round (wsV RX9 58 RX7 yX7_nodes wsX7_nodes) := goodIn_app (goodIn_of _ (by decide +kernel)) ggX9_round_X7_nodes
set_option maxRecDepth 20000 in
theorem ggX9_round_X2_areConnected : GoodIn wsX9_round wsX2_areConnected := goodIn_r _ [29, 30, 31, 28, 32, 33, 34, 35, 36, 37, 38, 39, 40, 41, 42, 43, 44, 45, 46, 47, 48, 49, 50, 51] (by decide +kernel) (by decide +kernel)
set_option maxRecDepth 20000 in
theorem gX9_round_X2_areConnected : GoodIn wsX9_round (va_wsS RX9 164 yX2_areConnected wsX2_areConnected) := goodIn_app (goodIn_of _ (by decide +kernel)) ggX9_round_X2_areConnected
set_option maxRecDepth 20000 in
theorem ggX9_round_X9_oneIf : GoodIn wsX9_round wsX9_oneIf := goodIn_r _ [55] (by decide +kernel) (by decide +kernel)
set_option maxRecDepth 20000 in
theorem gX9_round_X9_oneIf : GoodIn wsX9_round (va_wsS RX9 136 yX9_oneIf wsX9_oneIf) := goodIn_app (goodIn_of _ (by decide +kernel)) ggX9_round_X9_oneIf
set_option maxRecDepth 20000 in
theorem ggX9_round_X2_components : GoodIn wsX9_round wsX2_components := goodIn_r _ [58, 46, 47, 35, 48, 30, 31, 28, 32, 33, 34, 36, 37, 38, 39, 40, 41, 42, 43, 44, 45] (by decide +kernel) (by decide +kernel)
set_option maxRecDepth 20000 in
theorem gX9_round_X2_components : GoodIn wsX9_round (va_wsS RX9 168 yX2_components wsX2_components) := goodIn_app (goodIn_of _ (by decide +kernel)) ggX9_round_X2_components
set_option maxRecDepth 20000 in
theorem ggX9_round_X2_greatestDegree : GoodIn wsX9_round wsX2_greatestDegree := goodIn_r _ [61, 62, 63, 64, 65, 66, 67, 28, 68, 40, 41, 42, 43, 44, 45, 33, 34, 35, 36, 69, 15, 16, 17, 18, 19, 20] (by decide +kernel) (by decide +kernel)
set_option maxRecDepth 20000 in
theorem gX9_round_X2_greatestDegree : GoodIn wsX9_round (va_wsS RX9 171 yX2_greatestDegree wsX2_greatestDegree) := goodIn_app (goodIn_of _ (by decide +kernel)) ggX9_round_X2_greatestDegree
theorem dX9_round_0 : decode cX9_round 0 = .ok (.aload_n 0, 1) := by decide +kernel
theorem dX9_round_1 : decode cX9_round 1 = .ok (.getfield 10, 3) := by decide +kernel
theorem dX9_round_4 : decode cX9_round 4 = .ok (.iload_n 1, 1) := by decide +kernel
theorem dX9_round_5 : decode cX9_round 5 = .ok (.invokevirtual 102, 3) := by decide +kernel
theorem dX9_round_8 : decode cX9_round 8 = .ok (.ifCond .ne 5, 3) := by decide +kernel
theorem dX9_round_11 : decode cX9_round 11 = .ok (.iconst (-1), 1) := by decide +kernel
theorem dX9_round_12 : decode cX9_round 12 = .ok (.ireturn, 1) := by decide +kernel
theorem dX9_round_13 : decode cX9_round 13 = .ok (.aload_n 0, 1) := by decide +kernel
theorem dX9_round_14 : decode cX9_round 14 = .ok (.getfield 10, 3) := by decide +kernel
theorem dX9_round_17 : decode cX9_round 17 = .ok (.iload_n 1, 1) := by decide +kernel
theorem dX9_round_18 : decode cX9_round 18 = .ok (.invokevirtual 83, 3) := by decide +kernel
theorem dX9_round_21 : decode cX9_round 21 = .ok (.istore_n 3, 1) := by decide +kernel
theorem dX9_round_22 : decode cX9_round 22 = .ok (.iload_n 2, 1) := by decide +kernel
theorem dX9_round_23 : decode cX9_round 23 = .ok (.tableswitch 73 0 3 #[29, 34, 49, 61], 29) := by decide +kernel
theorem dX9_round_52 : decode cX9_round 52 = .ok (.iload_n 3, 1) := by decide +kernel
theorem dX9_round_53 : decode cX9_round 53 = .ok (.invokestatic 97, 3) := by decide +kernel
theorem dX9_round_56 : decode cX9_round 56 = .ok (.ireturn, 1) := by decide +kernel
theorem dX9_round_57 : decode cX9_round 57 = .ok (.iload_n 3, 1) := by decide +kernel
theorem dX9_round_58 : decode cX9_round 58 = .ok (.aload_n 0, 1) := by decide +kernel
theorem dX9_round_59 : decode cX9_round 59 = .ok (.getfield 10, 3) := by decide +kernel
theorem dX9_round_62 : decode cX9_round 62 = .ok (.invokevirtual 58, 3) := by decide +kernel
theorem dX9_round_65 : decode cX9_round 65 = .ok (.invokestatic 164, 3) := by decide +kernel
theorem dX9_round_68 : decode cX9_round 68 = .ok (.invokestatic 136, 3) := by decide +kernel
theorem dX9_round_71 : decode cX9_round 71 = .ok (.ireturn, 1) := by decide +kernel
theorem dX9_round_72 : decode cX9_round 72 = .ok (.iload_n 3, 1) := by decide +kernel
theorem dX9_round_73 : decode cX9_round 73 = .ok (.aload_n 0, 1) := by decide +kernel
theorem dX9_round_74 : decode cX9_round 74 = .ok (.getfield 10, 3) := by decide +kernel
theorem dX9_round_77 : decode cX9_round 77 = .ok (.invokevirtual 58, 3) := by decide +kernel
theorem dX9_round_80 : decode cX9_round 80 = .ok (.invokestatic 168, 3) := by decide +kernel
theorem dX9_round_83 : decode cX9_round 83 = .ok (.ireturn, 1) := by decide +kernel
theorem dX9_round_84 : decode cX9_round 84 = .ok (.iload_n 3, 1) := by decide +kernel
theorem dX9_round_85 : decode cX9_round 85 = .ok (.aload_n 0, 1) := by decide +kernel
theorem dX9_round_86 : decode cX9_round 86 = .ok (.getfield 10, 3) := by decide +kernel
theorem dX9_round_89 : decode cX9_round 89 = .ok (.invokevirtual 58, 3) := by decide +kernel
theorem dX9_round_92 : decode cX9_round 92 = .ok (.invokestatic 171, 3) := by decide +kernel
theorem dX9_round_95 : decode cX9_round 95 = .ok (.ireturn, 1) := by decide +kernel
theorem dX9_round_96 : decode cX9_round 96 = .ok (.iconst (-1), 1) := by decide +kernel
theorem dX9_round_97 : decode cX9_round 97 = .ok (.ireturn, 1) := by decide +kernel
set_option maxRecDepth 20000 in
theorem ggX9_staying_X7_hasRound : GoodIn wsX9_staying wsX7_hasRound := goodIn_r _ [6, 7, 36, 37, 38, 39] (by decide +kernel) (by decide +kernel)
set_option maxRecDepth 20000 in
theorem gX9_staying_X7_hasRound : GoodIn wsX9_staying (wsV RX9 102 RX7 yX7_hasRound wsX7_hasRound) := goodIn_app (goodIn_of _ (by decide +kernel)) ggX9_staying_X7_hasRound
set_option maxRecDepth 20000 in
theorem ggX9_staying_X7_rounds : GoodIn wsX9_staying wsX7_rounds := goodIn_r _ [11, 7, 36, 37, 38, 39] (by decide +kernel) (by decide +kernel)
set_option maxRecDepth 20000 in
theorem gX9_staying_X7_rounds : GoodIn wsX9_staying (wsV RX9 76 RX7 yX7_rounds wsX7_rounds) := goodIn_app (goodIn_of _ (by decide +kernel)) ggX9_staying_X7_rounds
set_option maxRecDepth 20000 in
theorem ggX9_staying_X7_edgesThatStay : GoodIn wsX9_staying wsX7_edgesThatStay := goodIn_r _ [15, 16, 17, 18, 5, 19, 20, 21, 3, 4, 6, 7, 36, 37, 38, 39] (by decide +kernel) (by decide +kernel)
set_option maxRecDepth 20000 in
theorem gX9_staying_X7_edgesThatStay : GoodIn wsX9_staying (wsV RX9 174 RX7 yX7_edgesThatStay wsX7_edgesThatStay) := goodIn_app (goodIn_of _ (by decide +kernel)) ggX9_staying_X7_edgesThatStay
set_option maxRecDepth 20000 in
theorem ggX9_staying_J6_bitCount_0f7a4 : GoodIn wsX9_staying wsJ6_bitCount_0f7a4 := goodIn_r _ [25, 26, 27, 28] (by decide +kernel) (by decide +kernel)
set_option maxRecDepth 20000 in
theorem gX9_staying_J6_bitCount_0f7a4 : GoodIn wsX9_staying (va_wsS RX9 97 yJ6_bitCount_0f7a4 wsJ6_bitCount_0f7a4) := goodIn_app (goodIn_of _ (by decide +kernel)) ggX9_staying_J6_bitCount_0f7a4
theorem dX9_staying_0 : decode cX9_staying 0 = .ok (.aload_n 0, 1) := by decide +kernel
theorem dX9_staying_1 : decode cX9_staying 1 = .ok (.getfield 10, 3) := by decide +kernel
theorem dX9_staying_4 : decode cX9_staying 4 = .ok (.iload_n 1, 1) := by decide +kernel
theorem dX9_staying_5 : decode cX9_staying 5 = .ok (.invokevirtual 102, 3) := by decide +kernel
theorem dX9_staying_8 : decode cX9_staying 8 = .ok (.ifCond .eq 21, 3) := by decide +kernel
theorem dX9_staying_11 : decode cX9_staying 11 = .ok (.iload_n 2, 1) := by decide +kernel
theorem dX9_staying_12 : decode cX9_staying 12 = .ok (.iconst 1, 1) := by decide +kernel
theorem dX9_staying_13 : decode cX9_staying 13 = .ok (.if_icmp .lt 16, 3) := by decide +kernel
theorem dX9_staying_16 : decode cX9_staying 16 = .ok (.iload_n 2, 1) := by decide +kernel
theorem dX9_staying_17 : decode cX9_staying 17 = .ok (.aload_n 0, 1) := by decide +kernel
theorem dX9_staying_18 : decode cX9_staying 18 = .ok (.getfield 10, 3) := by decide +kernel
theorem dX9_staying_21 : decode cX9_staying 21 = .ok (.invokevirtual 76, 3) := by decide +kernel
theorem dX9_staying_24 : decode cX9_staying 24 = .ok (.iload_n 1, 1) := by decide +kernel
theorem dX9_staying_25 : decode cX9_staying 25 = .ok (.isub, 1) := by decide +kernel
theorem dX9_staying_26 : decode cX9_staying 26 = .ok (.if_icmp .le 5, 3) := by decide +kernel
theorem dX9_staying_29 : decode cX9_staying 29 = .ok (.iconst (-1), 1) := by decide +kernel
theorem dX9_staying_30 : decode cX9_staying 30 = .ok (.ireturn, 1) := by decide +kernel
theorem dX9_staying_31 : decode cX9_staying 31 = .ok (.aload_n 0, 1) := by decide +kernel
theorem dX9_staying_32 : decode cX9_staying 32 = .ok (.getfield 10, 3) := by decide +kernel
theorem dX9_staying_35 : decode cX9_staying 35 = .ok (.iload_n 1, 1) := by decide +kernel
theorem dX9_staying_36 : decode cX9_staying 36 = .ok (.iload_n 2, 1) := by decide +kernel
theorem dX9_staying_37 : decode cX9_staying 37 = .ok (.invokevirtual 174, 3) := by decide +kernel
theorem dX9_staying_40 : decode cX9_staying 40 = .ok (.invokestatic 97, 3) := by decide +kernel
theorem dX9_staying_43 : decode cX9_staying 43 = .ok (.ireturn, 1) := by decide +kernel
set_option maxRecDepth 20000 in
theorem ggX9_isStable_X7_rounds : GoodIn wsX9_isStable wsX7_rounds := goodIn_r _ [6, 7, 63, 64, 65, 66] (by decide +kernel) (by decide +kernel)
set_option maxRecDepth 20000 in
theorem gX9_isStable_X7_rounds : GoodIn wsX9_isStable (wsV RX9 76 RX7 yX7_rounds wsX7_rounds) := goodIn_app (goodIn_of _ (by decide +kernel)) ggX9_isStable_X7_rounds
set_option maxRecDepth 20000 in
theorem ggX9_isStable_X7_staysConnected : GoodIn wsX9_isStable wsX7_staysConnected := goodIn_r _ [11, 7, 12, 13, 14, 15, 5, 16, 17, 18, 19, 20, 21, 22, 23, 24, 25, 26, 27, 28, 29, 30, 31, 32, 33, 34, 35, 36, 37, 38, 39, 40, 41, 42, 43, 44, 45, 46, 47, 48, 49, 50, 51, 63, 64, 65, 66] (by decide +kernel) (by decide +kernel)
set_option maxRecDepth 20000 in
theorem gX9_isStable_X7_staysConnected : GoodIn wsX9_isStable (wsV RX9 177 RX7 yX7_staysConnected wsX7_staysConnected) := goodIn_app (goodIn_of _ (by decide +kernel)) ggX9_isStable_X7_staysConnected
set_option maxRecDepth 20000 in
theorem ggX9_isStable_X9_oneIf : GoodIn wsX9_isStable wsX9_oneIf := goodIn_r _ [55] (by decide +kernel) (by decide +kernel)
set_option maxRecDepth 20000 in
theorem gX9_isStable_X9_oneIf : GoodIn wsX9_isStable (va_wsS RX9 136 yX9_oneIf wsX9_oneIf) := goodIn_app (goodIn_of _ (by decide +kernel)) ggX9_isStable_X9_oneIf
theorem dX9_isStable_0 : decode cX9_isStable 0 = .ok (.iload_n 1, 1) := by decide +kernel
theorem dX9_isStable_1 : decode cX9_isStable 1 = .ok (.iconst 1, 1) := by decide +kernel
theorem dX9_isStable_2 : decode cX9_isStable 2 = .ok (.if_icmp .lt 14, 3) := by decide +kernel
theorem dX9_isStable_5 : decode cX9_isStable 5 = .ok (.iload_n 1, 1) := by decide +kernel
theorem dX9_isStable_6 : decode cX9_isStable 6 = .ok (.aload_n 0, 1) := by decide +kernel
theorem dX9_isStable_7 : decode cX9_isStable 7 = .ok (.getfield 10, 3) := by decide +kernel
theorem dX9_isStable_10 : decode cX9_isStable 10 = .ok (.invokevirtual 76, 3) := by decide +kernel
theorem dX9_isStable_13 : decode cX9_isStable 13 = .ok (.if_icmp .le 5, 3) := by decide +kernel
theorem dX9_isStable_16 : decode cX9_isStable 16 = .ok (.iconst (-1), 1) := by decide +kernel
theorem dX9_isStable_17 : decode cX9_isStable 17 = .ok (.ireturn, 1) := by decide +kernel
theorem dX9_isStable_18 : decode cX9_isStable 18 = .ok (.aload_n 0, 1) := by decide +kernel
theorem dX9_isStable_19 : decode cX9_isStable 19 = .ok (.getfield 10, 3) := by decide +kernel
theorem dX9_isStable_22 : decode cX9_isStable 22 = .ok (.iload_n 1, 1) := by decide +kernel
theorem dX9_isStable_23 : decode cX9_isStable 23 = .ok (.invokevirtual 177, 3) := by decide +kernel
theorem dX9_isStable_26 : decode cX9_isStable 26 = .ok (.invokestatic 136, 3) := by decide +kernel
theorem dX9_isStable_29 : decode cX9_isStable 29 = .ok (.ireturn, 1) := by decide +kernel
set_option maxRecDepth 20000 in
theorem ggX9_greatestStable_X7_rounds : GoodIn wsX9_greatestStable wsX7_rounds := goodIn_r _ [6, 7, 59, 60, 61, 62] (by decide +kernel) (by decide +kernel)
set_option maxRecDepth 20000 in
theorem gX9_greatestStable_X7_rounds : GoodIn wsX9_greatestStable (wsV RX9 76 RX7 yX7_rounds wsX7_rounds) := goodIn_app (goodIn_of _ (by decide +kernel)) ggX9_greatestStable_X7_rounds
set_option maxRecDepth 20000 in
theorem ggX9_greatestStable_X7_staysConnected : GoodIn wsX9_greatestStable wsX7_staysConnected := goodIn_r _ [11, 7, 12, 13, 14, 15, 5, 16, 17, 18, 19, 20, 21, 22, 23, 24, 25, 26, 27, 28, 29, 30, 31, 32, 33, 34, 35, 36, 37, 38, 39, 40, 41, 42, 43, 44, 45, 46, 47, 48, 49, 50, 51, 59, 60, 61, 62] (by decide +kernel) (by decide +kernel)
set_option maxRecDepth 20000 in
theorem gX9_greatestStable_X7_staysConnected : GoodIn wsX9_greatestStable (wsV RX9 177 RX7 yX7_staysConnected wsX7_staysConnected) := goodIn_app (goodIn_of _ (by decide +kernel)) ggX9_greatestStable_X7_staysConnected
theorem dX9_greatestStable_0 : decode cX9_greatestStable 0 = .ok (.aload_n 0, 1) := by decide +kernel
theorem dX9_greatestStable_1 : decode cX9_greatestStable 1 = .ok (.getfield 10, 3) := by decide +kernel
theorem dX9_greatestStable_4 : decode cX9_greatestStable 4 = .ok (.invokevirtual 76, 3) := by decide +kernel
theorem dX9_greatestStable_7 : decode cX9_greatestStable 7 = .ok (.istore_n 1, 1) := by decide +kernel
theorem dX9_greatestStable_8 : decode cX9_greatestStable 8 = .ok (.iload_n 1, 1) := by decide +kernel
theorem dX9_greatestStable_9 : decode cX9_greatestStable 9 = .ok (.iconst 1, 1) := by decide +kernel
theorem dX9_greatestStable_10 : decode cX9_greatestStable 10 = .ok (.if_icmp .lt 22, 3) := by decide +kernel
theorem dX9_greatestStable_13 : decode cX9_greatestStable 13 = .ok (.aload_n 0, 1) := by decide +kernel
theorem dX9_greatestStable_14 : decode cX9_greatestStable 14 = .ok (.getfield 10, 3) := by decide +kernel
theorem dX9_greatestStable_17 : decode cX9_greatestStable 17 = .ok (.iload_n 1, 1) := by decide +kernel
theorem dX9_greatestStable_18 : decode cX9_greatestStable 18 = .ok (.invokevirtual 177, 3) := by decide +kernel
theorem dX9_greatestStable_21 : decode cX9_greatestStable 21 = .ok (.ifCond .eq 5, 3) := by decide +kernel
theorem dX9_greatestStable_24 : decode cX9_greatestStable 24 = .ok (.iload_n 1, 1) := by decide +kernel
theorem dX9_greatestStable_25 : decode cX9_greatestStable 25 = .ok (.ireturn, 1) := by decide +kernel
theorem dX9_greatestStable_26 : decode cX9_greatestStable 26 = .ok (.iinc 1 (-1), 3) := by decide +kernel
theorem dX9_greatestStable_29 : decode cX9_greatestStable 29 = .ok (.goto (-21), 3) := by decide +kernel
theorem dX9_greatestStable_32 : decode cX9_greatestStable 32 = .ok (.iconst 0, 1) := by decide +kernel
theorem dX9_greatestStable_33 : decode cX9_greatestStable 33 = .ok (.ireturn, 1) := by decide +kernel
set_option maxRecDepth 20000 in
theorem ggX9_window_X7_hasRound : GoodIn wsX9_window wsX7_hasRound := goodIn_r _ [6, 7, 56, 57, 58, 59] (by decide +kernel) (by decide +kernel)
set_option maxRecDepth 20000 in
theorem gX9_window_X7_hasRound : GoodIn wsX9_window (wsV RX9 102 RX7 yX7_hasRound wsX7_hasRound) := goodIn_app (goodIn_of _ (by decide +kernel)) ggX9_window_X7_hasRound
set_option maxRecDepth 20000 in
theorem ggX9_window_X7_longestWindow : GoodIn wsX9_window wsX7_longestWindow := goodIn_r _ [11, 7, 12, 13, 14, 15, 5, 16, 17, 18, 19, 20, 21, 22, 3, 4, 6, 23, 24, 25, 26, 27, 28, 29, 30, 31, 32, 33, 34, 35, 36, 37, 38, 39, 40, 41, 42, 43, 44, 45, 46, 47, 48, 56, 57, 58, 59] (by decide +kernel) (by decide +kernel)
set_option maxRecDepth 20000 in
theorem gX9_window_X7_longestWindow : GoodIn wsX9_window (wsV RX9 180 RX7 yX7_longestWindow wsX7_longestWindow) := goodIn_app (goodIn_of _ (by decide +kernel)) ggX9_window_X7_longestWindow
theorem dX9_window_0 : decode cX9_window 0 = .ok (.aload_n 0, 1) := by decide +kernel
theorem dX9_window_1 : decode cX9_window 1 = .ok (.getfield 10, 3) := by decide +kernel
theorem dX9_window_4 : decode cX9_window 4 = .ok (.iload_n 1, 1) := by decide +kernel
theorem dX9_window_5 : decode cX9_window 5 = .ok (.invokevirtual 102, 3) := by decide +kernel
theorem dX9_window_8 : decode cX9_window 8 = .ok (.ifCond .ne 5, 3) := by decide +kernel
theorem dX9_window_11 : decode cX9_window 11 = .ok (.iconst (-1), 1) := by decide +kernel
theorem dX9_window_12 : decode cX9_window 12 = .ok (.ireturn, 1) := by decide +kernel
theorem dX9_window_13 : decode cX9_window 13 = .ok (.aload_n 0, 1) := by decide +kernel
theorem dX9_window_14 : decode cX9_window 14 = .ok (.getfield 10, 3) := by decide +kernel
theorem dX9_window_17 : decode cX9_window 17 = .ok (.iload_n 1, 1) := by decide +kernel
theorem dX9_window_18 : decode cX9_window 18 = .ok (.invokevirtual 180, 3) := by decide +kernel
theorem dX9_window_21 : decode cX9_window 21 = .ok (.ireturn, 1) := by decide +kernel
set_option maxRecDepth 20000 in
theorem ggX9_heard_X7_hasNode : GoodIn wsX9_heard wsX7_hasNode := goodIn_r _ [7, 8, 63, 64, 65, 66] (by decide +kernel) (by decide +kernel)
set_option maxRecDepth 20000 in
theorem gX9_heard_X7_hasNode : GoodIn wsX9_heard (wsV RX9 109 RX7 yX7_hasNode wsX7_hasNode) := goodIn_app (goodIn_of _ (by decide +kernel)) ggX9_heard_X7_hasNode
set_option maxRecDepth 20000 in
theorem ggX9_heard_X9_isStep : GoodIn wsX9_heard wsX9_isStep := goodIn_r _ [12] (by decide +kernel) (by decide +kernel)
set_option maxRecDepth 20000 in
theorem gX9_heard_X9_isStep : GoodIn wsX9_heard (va_wsS RX9 183 yX9_isStep wsX9_isStep) := goodIn_app (goodIn_of _ (by decide +kernel)) ggX9_heard_X9_isStep
set_option maxRecDepth 20000 in
theorem ggX9_heard_X3_begin : GoodIn wsX9_heard wsX3_begin := goodIn_r _ [17, 18, 19, 20, 21, 22, 23, 67, 68, 69, 70] (by decide +kernel) (by decide +kernel)
set_option maxRecDepth 20000 in
theorem gX9_heard_X3_begin : GoodIn wsX9_heard (wsV RX9 112 RX3 yX3_begin wsX3_begin) := goodIn_app (goodIn_of _ (by decide +kernel)) ggX9_heard_X3_begin
set_option maxRecDepth 20000 in
theorem ggX9_heard_X3_advanceBy : GoodIn wsX9_heard wsX3_advanceBy := goodIn_r _ [27, 28, 29, 30, 16, 31, 32, 18, 33, 19, 34, 35, 36, 6, 37, 38, 39, 40, 41, 42, 43, 8, 44, 45, 46, 47, 48, 49, 50, 67, 68, 69, 70, 63, 64, 65, 66] (by decide +kernel) (by decide +kernel)
set_option maxRecDepth 20000 in
theorem gX9_heard_X3_advanceBy : GoodIn wsX9_heard (wsV RX9 115 RX3 yX3_advanceBy wsX3_advanceBy) := goodIn_app (goodIn_of _ (by decide +kernel)) ggX9_heard_X3_advanceBy
set_option maxRecDepth 20000 in
theorem ggX9_heard_X3_tokensOf : GoodIn wsX9_heard wsX3_tokensOf := goodIn_r _ [54, 32, 19, 55, 4, 5, 6, 7, 8, 67, 68, 69, 70, 63, 64, 65, 66] (by decide +kernel) (by decide +kernel)
set_option maxRecDepth 20000 in
theorem gX9_heard_X3_tokensOf : GoodIn wsX9_heard (wsV RX9 186 RX3 yX3_tokensOf wsX3_tokensOf) := goodIn_app (goodIn_of _ (by decide +kernel)) ggX9_heard_X3_tokensOf
theorem dX9_heard_0 : decode cX9_heard 0 = .ok (.aload_n 0, 1) := by decide +kernel
theorem dX9_heard_1 : decode cX9_heard 1 = .ok (.getfield 10, 3) := by decide +kernel
theorem dX9_heard_4 : decode cX9_heard 4 = .ok (.iload_n 1, 1) := by decide +kernel
theorem dX9_heard_5 : decode cX9_heard 5 = .ok (.invokevirtual 109, 3) := by decide +kernel
theorem dX9_heard_8 : decode cX9_heard 8 = .ok (.ifCond .eq 17, 3) := by decide +kernel
theorem dX9_heard_11 : decode cX9_heard 11 = .ok (.iload_n 2, 1) := by decide +kernel
theorem dX9_heard_12 : decode cX9_heard 12 = .ok (.invokestatic 183, 3) := by decide +kernel
theorem dX9_heard_15 : decode cX9_heard 15 = .ok (.ifCond .eq 10, 3) := by decide +kernel
theorem dX9_heard_18 : decode cX9_heard 18 = .ok (.iload_n 3, 1) := by decide +kernel
theorem dX9_heard_19 : decode cX9_heard 19 = .ok (.invokestatic 183, 3) := by decide +kernel
theorem dX9_heard_22 : decode cX9_heard 22 = .ok (.ifCond .ne 5, 3) := by decide +kernel
theorem dX9_heard_25 : decode cX9_heard 25 = .ok (.iconst (-1), 1) := by decide +kernel
theorem dX9_heard_26 : decode cX9_heard 26 = .ok (.ireturn, 1) := by decide +kernel
theorem dX9_heard_27 : decode cX9_heard 27 = .ok (.aload_n 0, 1) := by decide +kernel
theorem dX9_heard_28 : decode cX9_heard 28 = .ok (.getfield 38, 3) := by decide +kernel
theorem dX9_heard_31 : decode cX9_heard 31 = .ok (.iload_n 2, 1) := by decide +kernel
theorem dX9_heard_32 : decode cX9_heard 32 = .ok (.invokevirtual 112, 3) := by decide +kernel
theorem dX9_heard_35 : decode cX9_heard 35 = .ok (.aload_n 0, 1) := by decide +kernel
theorem dX9_heard_36 : decode cX9_heard 36 = .ok (.getfield 38, 3) := by decide +kernel
theorem dX9_heard_39 : decode cX9_heard 39 = .ok (.iload_n 3, 1) := by decide +kernel
theorem dX9_heard_40 : decode cX9_heard 40 = .ok (.invokevirtual 115, 3) := by decide +kernel
theorem dX9_heard_43 : decode cX9_heard 43 = .ok (.aload_n 0, 1) := by decide +kernel
theorem dX9_heard_44 : decode cX9_heard 44 = .ok (.getfield 38, 3) := by decide +kernel
theorem dX9_heard_47 : decode cX9_heard 47 = .ok (.iload_n 1, 1) := by decide +kernel
theorem dX9_heard_48 : decode cX9_heard 48 = .ok (.invokevirtual 186, 3) := by decide +kernel
theorem dX9_heard_51 : decode cX9_heard 51 = .ok (.ireturn, 1) := by decide +kernel
set_option maxRecDepth 20000 in
theorem ggX9_journey_X7_hasNode : GoodIn wsX9_journey wsX7_hasNode := goodIn_r _ [7, 8, 66, 67, 68, 69] (by decide +kernel) (by decide +kernel)
set_option maxRecDepth 20000 in
theorem gX9_journey_X7_hasNode : GoodIn wsX9_journey (wsV RX9 109 RX7 yX7_hasNode wsX7_hasNode) := goodIn_app (goodIn_of _ (by decide +kernel)) ggX9_journey_X7_hasNode
set_option maxRecDepth 20000 in
theorem ggX9_journey_X9_isStep : GoodIn wsX9_journey wsX9_isStep := goodIn_r _ [12] (by decide +kernel) (by decide +kernel)
set_option maxRecDepth 20000 in
theorem gX9_journey_X9_isStep : GoodIn wsX9_journey (va_wsS RX9 183 yX9_isStep wsX9_isStep) := goodIn_app (goodIn_of _ (by decide +kernel)) ggX9_journey_X9_isStep
set_option maxRecDepth 20000 in
theorem ggX9_journey_X3_begin : GoodIn wsX9_journey wsX3_begin := goodIn_r _ [17, 18, 19, 20, 21, 22, 23, 70, 71, 72, 73] (by decide +kernel) (by decide +kernel)
set_option maxRecDepth 20000 in
theorem gX9_journey_X3_begin : GoodIn wsX9_journey (wsV RX9 112 RX3 yX3_begin wsX3_begin) := goodIn_app (goodIn_of _ (by decide +kernel)) ggX9_journey_X3_begin
set_option maxRecDepth 20000 in
theorem ggX9_journey_X7_longestFlooding : GoodIn wsX9_journey wsX7_longestFlooding := goodIn_r _ [27, 8, 28, 66, 67, 68, 69] (by decide +kernel) (by decide +kernel)
set_option maxRecDepth 20000 in
theorem gX9_journey_X7_longestFlooding : GoodIn wsX9_journey (wsV RX9 189 RX7 yX7_longestFlooding wsX7_longestFlooding) := goodIn_app (goodIn_of _ (by decide +kernel)) ggX9_journey_X7_longestFlooding
set_option maxRecDepth 20000 in
theorem ggX9_journey_X3_tokensOf : GoodIn wsX9_journey wsX3_tokensOf := goodIn_r _ [32, 33, 19, 34, 4, 5, 6, 7, 8, 70, 71, 72, 73, 66, 67, 68, 69] (by decide +kernel) (by decide +kernel)
set_option maxRecDepth 20000 in
theorem gX9_journey_X3_tokensOf : GoodIn wsX9_journey (wsV RX9 186 RX3 yX3_tokensOf wsX3_tokensOf) := goodIn_app (goodIn_of _ (by decide +kernel)) ggX9_journey_X3_tokensOf
set_option maxRecDepth 20000 in
theorem ggX9_journey_X6_has : GoodIn wsX9_journey wsX6_has := goodIn_r _ [37] (by decide +kernel) (by decide +kernel)
set_option maxRecDepth 20000 in
theorem gX9_journey_X6_has : GoodIn wsX9_journey (va_wsS RX9 192 yX6_has wsX6_has) := goodIn_app (goodIn_of _ (by decide +kernel)) ggX9_journey_X6_has
set_option maxRecDepth 20000 in
theorem ggX9_journey_X3_advance : GoodIn wsX9_journey wsX3_advance := goodIn_r _ [41, 33, 18, 42, 19, 43, 44, 45, 6, 46, 28, 47, 48, 49, 50, 51, 8, 52, 53, 54, 55, 56, 57, 58, 70, 71, 72, 73, 66, 67, 68, 69] (by decide +kernel) (by decide +kernel)
set_option maxRecDepth 20000 in
theorem gX9_journey_X3_advance : GoodIn wsX9_journey (wsV RX9 197 RX3 yX3_advance wsX3_advance) := goodIn_app (goodIn_of _ (by decide +kernel)) ggX9_journey_X3_advance
theorem dX9_journey_0 : decode cX9_journey 0 = .ok (.aload_n 0, 1) := by decide +kernel
theorem dX9_journey_1 : decode cX9_journey 1 = .ok (.getfield 10, 3) := by decide +kernel
theorem dX9_journey_4 : decode cX9_journey 4 = .ok (.iload_n 1, 1) := by decide +kernel
theorem dX9_journey_5 : decode cX9_journey 5 = .ok (.invokevirtual 109, 3) := by decide +kernel
theorem dX9_journey_8 : decode cX9_journey 8 = .ok (.ifCond .eq 21, 3) := by decide +kernel
theorem dX9_journey_11 : decode cX9_journey 11 = .ok (.aload_n 0, 1) := by decide +kernel
theorem dX9_journey_12 : decode cX9_journey 12 = .ok (.getfield 10, 3) := by decide +kernel
theorem dX9_journey_15 : decode cX9_journey 15 = .ok (.iload_n 2, 1) := by decide +kernel
theorem dX9_journey_16 : decode cX9_journey 16 = .ok (.invokevirtual 109, 3) := by decide +kernel
theorem dX9_journey_19 : decode cX9_journey 19 = .ok (.ifCond .eq 10, 3) := by decide +kernel
theorem dX9_journey_22 : decode cX9_journey 22 = .ok (.iload_n 3, 1) := by decide +kernel
theorem dX9_journey_23 : decode cX9_journey 23 = .ok (.invokestatic 183, 3) := by decide +kernel
theorem dX9_journey_26 : decode cX9_journey 26 = .ok (.ifCond .ne 5, 3) := by decide +kernel
theorem dX9_journey_29 : decode cX9_journey 29 = .ok (.iconst (-1), 1) := by decide +kernel
theorem dX9_journey_30 : decode cX9_journey 30 = .ok (.ireturn, 1) := by decide +kernel
theorem dX9_journey_31 : decode cX9_journey 31 = .ok (.aload_n 0, 1) := by decide +kernel
theorem dX9_journey_32 : decode cX9_journey 32 = .ok (.getfield 38, 3) := by decide +kernel
theorem dX9_journey_35 : decode cX9_journey 35 = .ok (.iload_n 3, 1) := by decide +kernel
theorem dX9_journey_36 : decode cX9_journey 36 = .ok (.invokevirtual 112, 3) := by decide +kernel
theorem dX9_journey_39 : decode cX9_journey 39 = .ok (.iconst 0, 1) := by decide +kernel
theorem dX9_journey_40 : decode cX9_journey 40 = .ok (.istore 4, 2) := by decide +kernel
theorem dX9_journey_42 : decode cX9_journey 42 = .ok (.iload 4, 2) := by decide +kernel
theorem dX9_journey_44 : decode cX9_journey 44 = .ok (.aload_n 0, 1) := by decide +kernel
theorem dX9_journey_45 : decode cX9_journey 45 = .ok (.getfield 10, 3) := by decide +kernel
theorem dX9_journey_48 : decode cX9_journey 48 = .ok (.invokevirtual 189, 3) := by decide +kernel
theorem dX9_journey_51 : decode cX9_journey 51 = .ok (.if_icmp .gt 34, 3) := by decide +kernel
theorem dX9_journey_54 : decode cX9_journey 54 = .ok (.aload_n 0, 1) := by decide +kernel
theorem dX9_journey_55 : decode cX9_journey 55 = .ok (.getfield 38, 3) := by decide +kernel
theorem dX9_journey_58 : decode cX9_journey 58 = .ok (.iload_n 2, 1) := by decide +kernel
theorem dX9_journey_59 : decode cX9_journey 59 = .ok (.invokevirtual 186, 3) := by decide +kernel
theorem dX9_journey_62 : decode cX9_journey 62 = .ok (.iload_n 1, 1) := by decide +kernel
theorem dX9_journey_63 : decode cX9_journey 63 = .ok (.invokestatic 192, 3) := by decide +kernel
theorem dX9_journey_66 : decode cX9_journey 66 = .ok (.ifCond .eq 6, 3) := by decide +kernel
theorem dX9_journey_69 : decode cX9_journey 69 = .ok (.iload 4, 2) := by decide +kernel
theorem dX9_journey_71 : decode cX9_journey 71 = .ok (.ireturn, 1) := by decide +kernel
theorem dX9_journey_72 : decode cX9_journey 72 = .ok (.aload_n 0, 1) := by decide +kernel
theorem dX9_journey_73 : decode cX9_journey 73 = .ok (.getfield 38, 3) := by decide +kernel
theorem dX9_journey_76 : decode cX9_journey 76 = .ok (.invokevirtual 197, 3) := by decide +kernel
theorem dX9_journey_79 : decode cX9_journey 79 = .ok (.iinc 4 1, 3) := by decide +kernel
theorem dX9_journey_82 : decode cX9_journey 82 = .ok (.goto (-40), 3) := by decide +kernel
theorem dX9_journey_85 : decode cX9_journey 85 = .ok (.bipush (-9), 2) := by decide +kernel
theorem dX9_journey_87 : decode cX9_journey 87 = .ok (.ireturn, 1) := by decide +kernel
set_option maxRecDepth 20000 in
theorem ggX9_diameter_X9_isStep : GoodIn wsX9_diameter wsX9_isStep := goodIn_r _ [6] (by decide +kernel) (by decide +kernel)
set_option maxRecDepth 20000 in
theorem gX9_diameter_X9_isStep : GoodIn wsX9_diameter (va_wsS RX9 183 yX9_isStep wsX9_isStep) := goodIn_app (goodIn_of _ (by decide +kernel)) ggX9_diameter_X9_isStep
set_option maxRecDepth 20000 in
theorem ggX9_diameter_X3_begin : GoodIn wsX9_diameter wsX3_begin := goodIn_r _ [11, 12, 13, 14, 15, 16, 17, 63, 64, 65, 66] (by decide +kernel) (by decide +kernel)
set_option maxRecDepth 20000 in
theorem gX9_diameter_X3_begin : GoodIn wsX9_diameter (wsV RX9 112 RX3 yX3_begin wsX3_begin) := goodIn_app (goodIn_of _ (by decide +kernel)) ggX9_diameter_X3_begin
set_option maxRecDepth 20000 in
theorem ggX9_diameter_X7_longestFlooding : GoodIn wsX9_diameter wsX7_longestFlooding := goodIn_r _ [22, 23, 24, 67, 68, 69, 70] (by decide +kernel) (by decide +kernel)
set_option maxRecDepth 20000 in
theorem gX9_diameter_X7_longestFlooding : GoodIn wsX9_diameter (wsV RX9 189 RX7 yX7_longestFlooding wsX7_longestFlooding) := goodIn_app (goodIn_of _ (by decide +kernel)) ggX9_diameter_X7_longestFlooding
set_option maxRecDepth 20000 in
theorem ggX9_diameter_X3_tokensOfAll : GoodIn wsX9_diameter wsX3_tokensOfAll := goodIn_r _ [28, 29, 13, 30, 31, 32, 21, 33, 23, 34, 35, 16, 36, 63, 64, 65, 66, 67, 68, 69, 70] (by decide +kernel) (by decide +kernel)
set_option maxRecDepth 20000 in
theorem gX9_diameter_X3_tokensOfAll : GoodIn wsX9_diameter (wsV RX9 200 RX3 yX3_tokensOfAll wsX3_tokensOfAll) := goodIn_app (goodIn_of _ (by decide +kernel)) ggX9_diameter_X3_tokensOfAll
set_option maxRecDepth 20000 in
theorem ggX9_diameter_X7_nodes : GoodIn wsX9_diameter wsX7_nodes := goodIn_r _ [33, 23, 67, 68, 69, 70] (by decide +kernel) (by decide +kernel)
set_option maxRecDepth 20000 in
theorem gX9_diameter_X7_nodes : GoodIn wsX9_diameter (wsV RX9 58 RX7 yX7_nodes wsX7_nodes) := goodIn_app (goodIn_of _ (by decide +kernel)) ggX9_diameter_X7_nodes
set_option maxRecDepth 20000 in
theorem ggX9_diameter_X6_firstOnes : GoodIn wsX9_diameter wsX6_firstOnes := goodIn_r _ [36] (by decide +kernel) (by decide +kernel)
set_option maxRecDepth 20000 in
theorem gX9_diameter_X6_firstOnes : GoodIn wsX9_diameter (va_wsS RX9 203 yX6_firstOnes wsX6_firstOnes) := goodIn_app (goodIn_of _ (by decide +kernel)) ggX9_diameter_X6_firstOnes
set_option maxRecDepth 20000 in
theorem ggX9_diameter_X3_advance : GoodIn wsX9_diameter wsX3_advance := goodIn_r _ [42, 29, 12, 43, 13, 44, 45, 46, 21, 47, 24, 48, 30, 31, 32, 33, 23, 49, 50, 51, 52, 53, 54, 55, 63, 64, 65, 66, 67, 68, 69, 70] (by decide +kernel) (by decide +kernel)
set_option maxRecDepth 20000 in
theorem gX9_diameter_X3_advance : GoodIn wsX9_diameter (wsV RX9 197 RX3 yX3_advance wsX3_advance) := goodIn_app (goodIn_of _ (by decide +kernel)) ggX9_diameter_X3_advance
theorem dX9_diameter_0 : decode cX9_diameter 0 = .ok (.iload_n 1, 1) := by decide +kernel
theorem dX9_diameter_1 : decode cX9_diameter 1 = .ok (.invokestatic 183, 3) := by decide +kernel
theorem dX9_diameter_4 : decode cX9_diameter 4 = .ok (.ifCond .ne 5, 3) := by decide +kernel
theorem dX9_diameter_7 : decode cX9_diameter 7 = .ok (.iconst (-1), 1) := by decide +kernel
theorem dX9_diameter_8 : decode cX9_diameter 8 = .ok (.ireturn, 1) := by decide +kernel
theorem dX9_diameter_9 : decode cX9_diameter 9 = .ok (.aload_n 0, 1) := by decide +kernel
theorem dX9_diameter_10 : decode cX9_diameter 10 = .ok (.getfield 38, 3) := by decide +kernel
theorem dX9_diameter_13 : decode cX9_diameter 13 = .ok (.iload_n 1, 1) := by decide +kernel
theorem dX9_diameter_14 : decode cX9_diameter 14 = .ok (.invokevirtual 112, 3) := by decide +kernel
theorem dX9_diameter_17 : decode cX9_diameter 17 = .ok (.iconst 0, 1) := by decide +kernel
theorem dX9_diameter_18 : decode cX9_diameter 18 = .ok (.istore_n 2, 1) := by decide +kernel
theorem dX9_diameter_19 : decode cX9_diameter 19 = .ok (.iload_n 2, 1) := by decide +kernel
theorem dX9_diameter_20 : decode cX9_diameter 20 = .ok (.aload_n 0, 1) := by decide +kernel
theorem dX9_diameter_21 : decode cX9_diameter 21 = .ok (.getfield 10, 3) := by decide +kernel
theorem dX9_diameter_24 : decode cX9_diameter 24 = .ok (.invokevirtual 189, 3) := by decide +kernel
theorem dX9_diameter_27 : decode cX9_diameter 27 = .ok (.if_icmp .gt 38, 3) := by decide +kernel
theorem dX9_diameter_30 : decode cX9_diameter 30 = .ok (.aload_n 0, 1) := by decide +kernel
theorem dX9_diameter_31 : decode cX9_diameter 31 = .ok (.getfield 38, 3) := by decide +kernel
theorem dX9_diameter_34 : decode cX9_diameter 34 = .ok (.invokevirtual 200, 3) := by decide +kernel
theorem dX9_diameter_37 : decode cX9_diameter 37 = .ok (.aload_n 0, 1) := by decide +kernel
theorem dX9_diameter_38 : decode cX9_diameter 38 = .ok (.getfield 10, 3) := by decide +kernel
theorem dX9_diameter_41 : decode cX9_diameter 41 = .ok (.invokevirtual 58, 3) := by decide +kernel
theorem dX9_diameter_44 : decode cX9_diameter 44 = .ok (.invokestatic 203, 3) := by decide +kernel
theorem dX9_diameter_47 : decode cX9_diameter 47 = .ok (.if_icmp .ne 5, 3) := by decide +kernel
theorem dX9_diameter_50 : decode cX9_diameter 50 = .ok (.iload_n 2, 1) := by decide +kernel
theorem dX9_diameter_51 : decode cX9_diameter 51 = .ok (.ireturn, 1) := by decide +kernel
theorem dX9_diameter_52 : decode cX9_diameter 52 = .ok (.aload_n 0, 1) := by decide +kernel
theorem dX9_diameter_53 : decode cX9_diameter 53 = .ok (.getfield 38, 3) := by decide +kernel
theorem dX9_diameter_56 : decode cX9_diameter 56 = .ok (.invokevirtual 197, 3) := by decide +kernel
theorem dX9_diameter_59 : decode cX9_diameter 59 = .ok (.iinc 2 1, 3) := by decide +kernel
theorem dX9_diameter_62 : decode cX9_diameter 62 = .ok (.goto (-43), 3) := by decide +kernel
theorem dX9_diameter_65 : decode cX9_diameter 65 = .ok (.bipush (-9), 2) := by decide +kernel
theorem dX9_diameter_67 : decode cX9_diameter 67 = .ok (.ireturn, 1) := by decide +kernel
set_option maxRecDepth 20000 in
theorem ggX9_center_X3_begin : GoodIn wsX9_center wsX3_begin := goodIn_r _ [7, 8, 9, 10, 11, 12, 13, 63, 64, 65, 66] (by decide +kernel) (by decide +kernel)
set_option maxRecDepth 20000 in
theorem gX9_center_X3_begin : GoodIn wsX9_center (wsV RX9 112 RX3 yX3_begin wsX3_begin) := goodIn_app (goodIn_of _ (by decide +kernel)) ggX9_center_X3_begin
set_option maxRecDepth 20000 in
theorem ggX9_center_X7_longestFlooding : GoodIn wsX9_center wsX7_longestFlooding := goodIn_r _ [18, 19, 20, 67, 68, 69, 70] (by decide +kernel) (by decide +kernel)
set_option maxRecDepth 20000 in
theorem gX9_center_X7_longestFlooding : GoodIn wsX9_center (wsV RX9 189 RX7 yX7_longestFlooding wsX7_longestFlooding) := goodIn_app (goodIn_of _ (by decide +kernel)) ggX9_center_X7_longestFlooding
set_option maxRecDepth 20000 in
theorem ggX9_center_X3_tokensOfAll : GoodIn wsX9_center wsX3_tokensOfAll := goodIn_r _ [24, 25, 9, 26, 27, 28, 17, 29, 19, 30, 31, 12, 32, 63, 64, 65, 66, 67, 68, 69, 70] (by decide +kernel) (by decide +kernel)
set_option maxRecDepth 20000 in
theorem gX9_center_X3_tokensOfAll : GoodIn wsX9_center (wsV RX9 200 RX3 yX3_tokensOfAll wsX3_tokensOfAll) := goodIn_app (goodIn_of _ (by decide +kernel)) ggX9_center_X3_tokensOfAll
set_option maxRecDepth 20000 in
theorem ggX9_center_X6_smallest : GoodIn wsX9_center wsX6_smallest := goodIn_r _ [35, 36, 37, 12, 38] (by decide +kernel) (by decide +kernel)
set_option maxRecDepth 20000 in
theorem gX9_center_X6_smallest : GoodIn wsX9_center (va_wsS RX9 206 yX6_smallest wsX6_smallest) := goodIn_app (goodIn_of _ (by decide +kernel)) ggX9_center_X6_smallest
set_option maxRecDepth 20000 in
theorem ggX9_center_X3_advance : GoodIn wsX9_center wsX3_advance := goodIn_r _ [42, 25, 8, 43, 9, 44, 45, 46, 17, 47, 20, 48, 26, 27, 28, 29, 19, 49, 50, 51, 52, 53, 54, 55, 63, 64, 65, 66, 67, 68, 69, 70] (by decide +kernel) (by decide +kernel)
set_option maxRecDepth 20000 in
theorem gX9_center_X3_advance : GoodIn wsX9_center (wsV RX9 197 RX3 yX3_advance wsX3_advance) := goodIn_app (goodIn_of _ (by decide +kernel)) ggX9_center_X3_advance
theorem dX9_center_0 : decode cX9_center 0 = .ok (.aload_n 0, 1) := by decide +kernel
theorem dX9_center_1 : decode cX9_center 1 = .ok (.getfield 38, 3) := by decide +kernel
theorem dX9_center_4 : decode cX9_center 4 = .ok (.iconst 0, 1) := by decide +kernel
theorem dX9_center_5 : decode cX9_center 5 = .ok (.invokevirtual 112, 3) := by decide +kernel
theorem dX9_center_8 : decode cX9_center 8 = .ok (.iconst 0, 1) := by decide +kernel
theorem dX9_center_9 : decode cX9_center 9 = .ok (.istore_n 1, 1) := by decide +kernel
theorem dX9_center_10 : decode cX9_center 10 = .ok (.iload_n 1, 1) := by decide +kernel
theorem dX9_center_11 : decode cX9_center 11 = .ok (.aload_n 0, 1) := by decide +kernel
theorem dX9_center_12 : decode cX9_center 12 = .ok (.getfield 10, 3) := by decide +kernel
theorem dX9_center_15 : decode cX9_center 15 = .ok (.invokevirtual 189, 3) := by decide +kernel
theorem dX9_center_18 : decode cX9_center 18 = .ok (.if_icmp .gt 33, 3) := by decide +kernel
theorem dX9_center_21 : decode cX9_center 21 = .ok (.aload_n 0, 1) := by decide +kernel
theorem dX9_center_22 : decode cX9_center 22 = .ok (.getfield 38, 3) := by decide +kernel
theorem dX9_center_25 : decode cX9_center 25 = .ok (.invokevirtual 200, 3) := by decide +kernel
theorem dX9_center_28 : decode cX9_center 28 = .ok (.istore_n 2, 1) := by decide +kernel
theorem dX9_center_29 : decode cX9_center 29 = .ok (.iload_n 2, 1) := by decide +kernel
theorem dX9_center_30 : decode cX9_center 30 = .ok (.ifCond .eq 8, 3) := by decide +kernel
theorem dX9_center_33 : decode cX9_center 33 = .ok (.iload_n 2, 1) := by decide +kernel
theorem dX9_center_34 : decode cX9_center 34 = .ok (.invokestatic 206, 3) := by decide +kernel
theorem dX9_center_37 : decode cX9_center 37 = .ok (.ireturn, 1) := by decide +kernel
theorem dX9_center_38 : decode cX9_center 38 = .ok (.aload_n 0, 1) := by decide +kernel
theorem dX9_center_39 : decode cX9_center 39 = .ok (.getfield 38, 3) := by decide +kernel
theorem dX9_center_42 : decode cX9_center 42 = .ok (.invokevirtual 197, 3) := by decide +kernel
theorem dX9_center_45 : decode cX9_center 45 = .ok (.iinc 1 1, 3) := by decide +kernel
theorem dX9_center_48 : decode cX9_center 48 = .ok (.goto (-38), 3) := by decide +kernel
theorem dX9_center_51 : decode cX9_center 51 = .ok (.bipush (-9), 2) := by decide +kernel
theorem dX9_center_53 : decode cX9_center 53 = .ok (.ireturn, 1) := by decide +kernel
set_option maxRecDepth 20000 in
theorem ggX9_gossip_X9_isRule : GoodIn wsX9_gossip wsX9_isRule := goodIn_r _ [6] (by decide +kernel) (by decide +kernel)
set_option maxRecDepth 20000 in
theorem gX9_gossip_X9_isRule : GoodIn wsX9_gossip (va_wsS RX9 209 yX9_isRule wsX9_isRule) := goodIn_app (goodIn_of _ (by decide +kernel)) ggX9_gossip_X9_isRule
set_option maxRecDepth 20000 in
theorem ggX9_gossip_X7_hasNode : GoodIn wsX9_gossip wsX7_hasNode := goodIn_r _ [11, 12, 91, 92, 93, 94] (by decide +kernel) (by decide +kernel)
set_option maxRecDepth 20000 in
theorem gX9_gossip_X7_hasNode : GoodIn wsX9_gossip (wsV RX9 109 RX7 yX7_hasNode wsX7_hasNode) := goodIn_app (goodIn_of _ (by decide +kernel)) ggX9_gossip_X7_hasNode
set_option maxRecDepth 20000 in
theorem ggX9_gossip_X9_isStep : GoodIn wsX9_gossip wsX9_isStep := goodIn_r _ [15] (by decide +kernel) (by decide +kernel)
set_option maxRecDepth 20000 in
theorem gX9_gossip_X9_isStep : GoodIn wsX9_gossip (va_wsS RX9 183 yX9_isStep wsX9_isStep) := goodIn_app (goodIn_of _ (by decide +kernel)) ggX9_gossip_X9_isStep
set_option maxRecDepth 20000 in
theorem ggX9_gossip_X4_begin : GoodIn wsX9_gossip wsX4_begin := goodIn_r _ [20, 21, 22, 23, 24, 25, 26, 27, 28, 29, 95, 96, 97, 98, 99, 100, 101] (by decide +kernel) (by decide +kernel)
set_option maxRecDepth 20000 in
theorem gX9_gossip_X4_begin : GoodIn wsX9_gossip (wsV RX9 212 RX4 yX4_begin wsX4_begin) := goodIn_app (goodIn_of _ (by decide +kernel)) ggX9_gossip_X4_begin
set_option maxRecDepth 20000 in
theorem ggX9_gossip_X4_advance : GoodIn wsX9_gossip wsX4_advance := goodIn_r _ [33, 34, 35, 24, 22, 36, 37, 38, 10, 39, 12, 40, 41, 42, 19, 43, 21, 23, 25, 44, 45, 28, 46, 47, 48, 49, 50, 26, 27, 29, 51, 52, 53, 54, 55, 56, 57, 58, 59, 60, 61, 62, 63, 64, 65, 66, 67, 68, 69, 70, 71, 72, 73, 74, 75, 76, 77, 78, 95, 96, 97, 98, 99, 100, 101, 91, 92, 93, 94] (by decide +kernel) (by decide +kernel)
set_option maxRecDepth 20000 in
theorem gX9_gossip_X4_advance : GoodIn wsX9_gossip (wsV RX9 213 RX4 yX4_advance wsX4_advance) := goodIn_app (goodIn_of _ (by decide +kernel)) ggX9_gossip_X4_advance
set_option maxRecDepth 20000 in
theorem ggX9_gossip_X4_tokensOf : GoodIn wsX9_gossip wsX4_tokensOf := goodIn_r _ [82, 34, 23, 83, 8, 9, 10, 11, 12, 95, 96, 97, 98, 99, 100, 101, 91, 92, 93, 94] (by decide +kernel) (by decide +kernel)
set_option maxRecDepth 20000 in
theorem gX9_gossip_X4_tokensOf : GoodIn wsX9_gossip (wsV RX9 214 RX4 yX4_tokensOf wsX4_tokensOf) := goodIn_app (goodIn_of _ (by decide +kernel)) ggX9_gossip_X4_tokensOf
theorem dX9_gossip_0 : decode cX9_gossip 0 = .ok (.iload_n 1, 1) := by decide +kernel
theorem dX9_gossip_1 : decode cX9_gossip 1 = .ok (.invokestatic 209, 3) := by decide +kernel
theorem dX9_gossip_4 : decode cX9_gossip 4 = .ok (.ifCond .eq 21, 3) := by decide +kernel
theorem dX9_gossip_7 : decode cX9_gossip 7 = .ok (.aload_n 0, 1) := by decide +kernel
theorem dX9_gossip_8 : decode cX9_gossip 8 = .ok (.getfield 10, 3) := by decide +kernel
theorem dX9_gossip_11 : decode cX9_gossip 11 = .ok (.iload_n 2, 1) := by decide +kernel
theorem dX9_gossip_12 : decode cX9_gossip 12 = .ok (.invokevirtual 109, 3) := by decide +kernel
theorem dX9_gossip_15 : decode cX9_gossip 15 = .ok (.ifCond .eq 10, 3) := by decide +kernel
theorem dX9_gossip_18 : decode cX9_gossip 18 = .ok (.iload_n 3, 1) := by decide +kernel
theorem dX9_gossip_19 : decode cX9_gossip 19 = .ok (.invokestatic 183, 3) := by decide +kernel
theorem dX9_gossip_22 : decode cX9_gossip 22 = .ok (.ifCond .ne 5, 3) := by decide +kernel
theorem dX9_gossip_25 : decode cX9_gossip 25 = .ok (.iconst (-1), 1) := by decide +kernel
theorem dX9_gossip_26 : decode cX9_gossip 26 = .ok (.ireturn, 1) := by decide +kernel
theorem dX9_gossip_27 : decode cX9_gossip 27 = .ok (.aload_n 0, 1) := by decide +kernel
theorem dX9_gossip_28 : decode cX9_gossip 28 = .ok (.getfield 45, 3) := by decide +kernel
theorem dX9_gossip_31 : decode cX9_gossip 31 = .ok (.iload_n 1, 1) := by decide +kernel
theorem dX9_gossip_32 : decode cX9_gossip 32 = .ok (.invokevirtual 212, 3) := by decide +kernel
theorem dX9_gossip_35 : decode cX9_gossip 35 = .ok (.iconst 0, 1) := by decide +kernel
theorem dX9_gossip_36 : decode cX9_gossip 36 = .ok (.istore 4, 2) := by decide +kernel
theorem dX9_gossip_38 : decode cX9_gossip 38 = .ok (.iload 4, 2) := by decide +kernel
theorem dX9_gossip_40 : decode cX9_gossip 40 = .ok (.iload_n 3, 1) := by decide +kernel
theorem dX9_gossip_41 : decode cX9_gossip 41 = .ok (.if_icmp .ge 16, 3) := by decide +kernel
theorem dX9_gossip_44 : decode cX9_gossip 44 = .ok (.aload_n 0, 1) := by decide +kernel
theorem dX9_gossip_45 : decode cX9_gossip 45 = .ok (.getfield 45, 3) := by decide +kernel
theorem dX9_gossip_48 : decode cX9_gossip 48 = .ok (.invokevirtual 213, 3) := by decide +kernel
theorem dX9_gossip_51 : decode cX9_gossip 51 = .ok (.iinc 4 1, 3) := by decide +kernel
theorem dX9_gossip_54 : decode cX9_gossip 54 = .ok (.goto (-16), 3) := by decide +kernel
theorem dX9_gossip_57 : decode cX9_gossip 57 = .ok (.aload_n 0, 1) := by decide +kernel
theorem dX9_gossip_58 : decode cX9_gossip 58 = .ok (.getfield 45, 3) := by decide +kernel
theorem dX9_gossip_61 : decode cX9_gossip 61 = .ok (.iload_n 2, 1) := by decide +kernel
theorem dX9_gossip_62 : decode cX9_gossip 62 = .ok (.invokevirtual 214, 3) := by decide +kernel
theorem dX9_gossip_65 : decode cX9_gossip 65 = .ok (.ireturn, 1) := by decide +kernel
set_option maxRecDepth 20000 in
theorem ggX9_gossipTime_X9_isRule : GoodIn wsX9_gossipTime wsX9_isRule := goodIn_r _ [5] (by decide +kernel) (by decide +kernel)
set_option maxRecDepth 20000 in
theorem gX9_gossipTime_X9_isRule : GoodIn wsX9_gossipTime (va_wsS RX9 209 yX9_isRule wsX9_isRule) := goodIn_app (goodIn_of _ (by decide +kernel)) ggX9_gossipTime_X9_isRule
set_option maxRecDepth 20000 in
theorem ggX9_gossipTime_X4_begin : GoodIn wsX9_gossipTime wsX4_begin := goodIn_r _ [10, 11, 12, 13, 14, 15, 16, 17, 18, 19, 85, 86, 87, 88, 89, 90, 91] (by decide +kernel) (by decide +kernel)
set_option maxRecDepth 20000 in
theorem gX9_gossipTime_X4_begin : GoodIn wsX9_gossipTime (wsV RX9 212 RX4 yX4_begin wsX4_begin) := goodIn_app (goodIn_of _ (by decide +kernel)) ggX9_gossipTime_X4_begin
set_option maxRecDepth 20000 in
theorem ggX9_gossipTime_X4_allKnowAll : GoodIn wsX9_gossipTime wsX4_allKnowAll := goodIn_r _ [23, 24, 13, 25, 26, 27, 28, 29, 30, 31, 32, 18, 33, 85, 86, 87, 88, 89, 90, 91, 92, 93, 94, 95] (by decide +kernel) (by decide +kernel)
set_option maxRecDepth 20000 in
theorem gX9_gossipTime_X4_allKnowAll : GoodIn wsX9_gossipTime (wsV RX9 215 RX4 yX4_allKnowAll wsX4_allKnowAll) := goodIn_app (goodIn_of _ (by decide +kernel)) ggX9_gossipTime_X4_allKnowAll
set_option maxRecDepth 20000 in
theorem ggX9_gossipTime_X4_advance : GoodIn wsX9_gossipTime wsX4_advance := goodIn_r _ [37, 24, 38, 14, 12, 25, 26, 27, 28, 29, 30, 39, 40, 41, 9, 42, 11, 13, 15, 43, 44, 18, 45, 46, 47, 48, 49, 16, 17, 19, 50, 51, 52, 53, 54, 55, 56, 57, 58, 59, 60, 61, 62, 63, 64, 65, 66, 67, 68, 69, 70, 71, 72, 73, 74, 75, 76, 77, 85, 86, 87, 88, 89, 90, 91, 92, 93, 94, 95] (by decide +kernel) (by decide +kernel)
set_option maxRecDepth 20000 in
theorem gX9_gossipTime_X4_advance : GoodIn wsX9_gossipTime (wsV RX9 213 RX4 yX4_advance wsX4_advance) := goodIn_app (goodIn_of _ (by decide +kernel)) ggX9_gossipTime_X4_advance
theorem dX9_gossipTime_0 : decode cX9_gossipTime 0 = .ok (.iload_n 1, 1) := by decide +kernel
theorem dX9_gossipTime_1 : decode cX9_gossipTime 1 = .ok (.invokestatic 209, 3) := by decide +kernel
theorem dX9_gossipTime_4 : decode cX9_gossipTime 4 = .ok (.ifCond .ne 5, 3) := by decide +kernel
theorem dX9_gossipTime_7 : decode cX9_gossipTime 7 = .ok (.iconst (-1), 1) := by decide +kernel
theorem dX9_gossipTime_8 : decode cX9_gossipTime 8 = .ok (.ireturn, 1) := by decide +kernel
theorem dX9_gossipTime_9 : decode cX9_gossipTime 9 = .ok (.aload_n 0, 1) := by decide +kernel
theorem dX9_gossipTime_10 : decode cX9_gossipTime 10 = .ok (.getfield 45, 3) := by decide +kernel
theorem dX9_gossipTime_13 : decode cX9_gossipTime 13 = .ok (.iload_n 1, 1) := by decide +kernel
theorem dX9_gossipTime_14 : decode cX9_gossipTime 14 = .ok (.invokevirtual 212, 3) := by decide +kernel
theorem dX9_gossipTime_17 : decode cX9_gossipTime 17 = .ok (.iconst 0, 1) := by decide +kernel
theorem dX9_gossipTime_18 : decode cX9_gossipTime 18 = .ok (.istore_n 2, 1) := by decide +kernel
theorem dX9_gossipTime_19 : decode cX9_gossipTime 19 = .ok (.iload_n 2, 1) := by decide +kernel
theorem dX9_gossipTime_20 : decode cX9_gossipTime 20 = .ok (.bipush 99, 2) := by decide +kernel
theorem dX9_gossipTime_22 : decode cX9_gossipTime 22 = .ok (.if_icmp .gt 28, 3) := by decide +kernel
theorem dX9_gossipTime_25 : decode cX9_gossipTime 25 = .ok (.aload_n 0, 1) := by decide +kernel
theorem dX9_gossipTime_26 : decode cX9_gossipTime 26 = .ok (.getfield 45, 3) := by decide +kernel
theorem dX9_gossipTime_29 : decode cX9_gossipTime 29 = .ok (.invokevirtual 215, 3) := by decide +kernel
theorem dX9_gossipTime_32 : decode cX9_gossipTime 32 = .ok (.ifCond .eq 5, 3) := by decide +kernel
theorem dX9_gossipTime_35 : decode cX9_gossipTime 35 = .ok (.iload_n 2, 1) := by decide +kernel
theorem dX9_gossipTime_36 : decode cX9_gossipTime 36 = .ok (.ireturn, 1) := by decide +kernel
theorem dX9_gossipTime_37 : decode cX9_gossipTime 37 = .ok (.aload_n 0, 1) := by decide +kernel
theorem dX9_gossipTime_38 : decode cX9_gossipTime 38 = .ok (.getfield 45, 3) := by decide +kernel
theorem dX9_gossipTime_41 : decode cX9_gossipTime 41 = .ok (.invokevirtual 213, 3) := by decide +kernel
theorem dX9_gossipTime_44 : decode cX9_gossipTime 44 = .ok (.iinc 2 1, 3) := by decide +kernel
theorem dX9_gossipTime_47 : decode cX9_gossipTime 47 = .ok (.goto (-28), 3) := by decide +kernel
theorem dX9_gossipTime_50 : decode cX9_gossipTime 50 = .ok (.bipush (-9), 2) := by decide +kernel
theorem dX9_gossipTime_52 : decode cX9_gossipTime 52 = .ok (.ireturn, 1) := by decide +kernel
set_option maxRecDepth 20000 in
theorem ggX9_decision_X7_hasNode : GoodIn wsX9_decision wsX7_hasNode := goodIn_r _ [7, 8, 75, 76, 77, 78] (by decide +kernel) (by decide +kernel)
set_option maxRecDepth 20000 in
theorem gX9_decision_X7_hasNode : GoodIn wsX9_decision (wsV RX9 109 RX7 yX7_hasNode wsX7_hasNode) := goodIn_app (goodIn_of _ (by decide +kernel)) ggX9_decision_X7_hasNode
set_option maxRecDepth 20000 in
theorem ggX9_decision_X9_isStep : GoodIn wsX9_decision wsX9_isStep := goodIn_r _ [12] (by decide +kernel) (by decide +kernel)
set_option maxRecDepth 20000 in
theorem gX9_decision_X9_isStep : GoodIn wsX9_decision (va_wsS RX9 183 yX9_isStep wsX9_isStep) := goodIn_app (goodIn_of _ (by decide +kernel)) ggX9_decision_X9_isStep
set_option maxRecDepth 20000 in
theorem ggX9_decision_X3_begin : GoodIn wsX9_decision wsX3_begin := goodIn_r _ [17, 18, 19, 20, 21, 22, 23, 79, 80, 81, 82] (by decide +kernel) (by decide +kernel)
set_option maxRecDepth 20000 in
theorem gX9_decision_X3_begin : GoodIn wsX9_decision (wsV RX9 112 RX3 yX3_begin wsX3_begin) := goodIn_app (goodIn_of _ (by decide +kernel)) ggX9_decision_X3_begin
set_option maxRecDepth 20000 in
theorem ggX9_decision_X3_advanceBy : GoodIn wsX9_decision wsX3_advanceBy := goodIn_r _ [27, 28, 29, 30, 16, 31, 32, 18, 33, 19, 34, 35, 36, 6, 37, 38, 39, 40, 41, 42, 43, 8, 44, 45, 46, 47, 48, 49, 50, 79, 80, 81, 82, 75, 76, 77, 78] (by decide +kernel) (by decide +kernel)
set_option maxRecDepth 20000 in
theorem gX9_decision_X3_advanceBy : GoodIn wsX9_decision (wsV RX9 115 RX3 yX3_advanceBy wsX3_advanceBy) := goodIn_app (goodIn_of _ (by decide +kernel)) ggX9_decision_X3_advanceBy
set_option maxRecDepth 20000 in
theorem ggX9_decision_X3_tokensOf : GoodIn wsX9_decision wsX3_tokensOf := goodIn_r _ [54, 32, 19, 55, 4, 5, 6, 7, 8, 79, 80, 81, 82, 75, 76, 77, 78] (by decide +kernel) (by decide +kernel)
set_option maxRecDepth 20000 in
theorem gX9_decision_X3_tokensOf : GoodIn wsX9_decision (wsV RX9 186 RX3 yX3_tokensOf wsX3_tokensOf) := goodIn_app (goodIn_of _ (by decide +kernel)) ggX9_decision_X3_tokensOf
set_option maxRecDepth 20000 in
theorem ggX9_decision_X7_smallestValue : GoodIn wsX9_decision wsX7_smallestValue := goodIn_r _ [59, 8, 60, 61, 62, 63, 64, 65, 66, 22, 67, 75, 76, 77, 78] (by decide +kernel) (by decide +kernel)
set_option maxRecDepth 20000 in
theorem gX9_decision_X7_smallestValue : GoodIn wsX9_decision (wsV RX9 218 RX7 yX7_smallestValue wsX7_smallestValue) := goodIn_app (goodIn_of _ (by decide +kernel)) ggX9_decision_X7_smallestValue
theorem dX9_decision_0 : decode cX9_decision 0 = .ok (.aload_n 0, 1) := by decide +kernel
theorem dX9_decision_1 : decode cX9_decision 1 = .ok (.getfield 10, 3) := by decide +kernel
theorem dX9_decision_4 : decode cX9_decision 4 = .ok (.iload_n 1, 1) := by decide +kernel
theorem dX9_decision_5 : decode cX9_decision 5 = .ok (.invokevirtual 109, 3) := by decide +kernel
theorem dX9_decision_8 : decode cX9_decision 8 = .ok (.ifCond .eq 10, 3) := by decide +kernel
theorem dX9_decision_11 : decode cX9_decision 11 = .ok (.iload_n 2, 1) := by decide +kernel
theorem dX9_decision_12 : decode cX9_decision 12 = .ok (.invokestatic 183, 3) := by decide +kernel
theorem dX9_decision_15 : decode cX9_decision 15 = .ok (.ifCond .ne 5, 3) := by decide +kernel
theorem dX9_decision_18 : decode cX9_decision 18 = .ok (.iconst (-1), 1) := by decide +kernel
theorem dX9_decision_19 : decode cX9_decision 19 = .ok (.ireturn, 1) := by decide +kernel
theorem dX9_decision_20 : decode cX9_decision 20 = .ok (.aload_n 0, 1) := by decide +kernel
theorem dX9_decision_21 : decode cX9_decision 21 = .ok (.getfield 38, 3) := by decide +kernel
theorem dX9_decision_24 : decode cX9_decision 24 = .ok (.iconst 0, 1) := by decide +kernel
theorem dX9_decision_25 : decode cX9_decision 25 = .ok (.invokevirtual 112, 3) := by decide +kernel
theorem dX9_decision_28 : decode cX9_decision 28 = .ok (.aload_n 0, 1) := by decide +kernel
theorem dX9_decision_29 : decode cX9_decision 29 = .ok (.getfield 38, 3) := by decide +kernel
theorem dX9_decision_32 : decode cX9_decision 32 = .ok (.iload_n 2, 1) := by decide +kernel
theorem dX9_decision_33 : decode cX9_decision 33 = .ok (.invokevirtual 115, 3) := by decide +kernel
theorem dX9_decision_36 : decode cX9_decision 36 = .ok (.aload_n 0, 1) := by decide +kernel
theorem dX9_decision_37 : decode cX9_decision 37 = .ok (.getfield 10, 3) := by decide +kernel
theorem dX9_decision_40 : decode cX9_decision 40 = .ok (.aload_n 0, 1) := by decide +kernel
theorem dX9_decision_41 : decode cX9_decision 41 = .ok (.getfield 38, 3) := by decide +kernel
theorem dX9_decision_44 : decode cX9_decision 44 = .ok (.iload_n 1, 1) := by decide +kernel
theorem dX9_decision_45 : decode cX9_decision 45 = .ok (.invokevirtual 186, 3) := by decide +kernel
theorem dX9_decision_48 : decode cX9_decision 48 = .ok (.invokevirtual 218, 3) := by decide +kernel
theorem dX9_decision_51 : decode cX9_decision 51 = .ok (.ireturn, 1) := by decide +kernel
set_option maxRecDepth 20000 in
theorem ggX9_agreement_X3_begin : GoodIn wsX9_agreement wsX3_begin := goodIn_r _ [7, 8, 9, 10, 11, 12, 13, 76, 77, 78, 79] (by decide +kernel) (by decide +kernel)
set_option maxRecDepth 20000 in
theorem gX9_agreement_X3_begin : GoodIn wsX9_agreement (wsV RX9 112 RX3 yX3_begin wsX3_begin) := goodIn_app (goodIn_of _ (by decide +kernel)) ggX9_agreement_X3_begin
set_option maxRecDepth 20000 in
theorem ggX9_agreement_X7_longestFlooding : GoodIn wsX9_agreement wsX7_longestFlooding := goodIn_r _ [18, 19, 20, 80, 81, 82, 83] (by decide +kernel) (by decide +kernel)
set_option maxRecDepth 20000 in
theorem gX9_agreement_X7_longestFlooding : GoodIn wsX9_agreement (wsV RX9 189 RX7 yX7_longestFlooding wsX7_longestFlooding) := goodIn_app (goodIn_of _ (by decide +kernel)) ggX9_agreement_X7_longestFlooding
set_option maxRecDepth 20000 in
theorem ggX9_agreement_X9_allDecideTheSame : GoodIn wsX9_agreement wsX9_allDecideTheSame := goodIn_r _ [25, 2, 1, 26, 27, 28, 6, 29, 30, 9, 31, 32, 33, 17, 34, 19, 35, 36, 37, 38, 39, 40, 41, 42, 43, 44, 45, 12, 46, 47, 48, 49, 50, 69, 70, 71, 72, 73, 74, 75, 76, 77, 78, 79, 80, 81, 82, 83] (by decide +kernel) (by decide +kernel)
set_option maxRecDepth 20000 in
theorem gX9_agreement_X9_allDecideTheSame : GoodIn wsX9_agreement (wsV RX9 221 RX9 yX9_allDecideTheSame wsX9_allDecideTheSame) := goodIn_app (goodIn_of _ (by decide +kernel)) ggX9_agreement_X9_allDecideTheSame
set_option maxRecDepth 20000 in
theorem ggX9_agreement_X3_advance : GoodIn wsX9_agreement wsX3_advance := goodIn_r _ [54, 30, 8, 55, 9, 56, 57, 58, 17, 59, 20, 60, 61, 48, 49, 50, 19, 62, 63, 64, 65, 66, 67, 68, 76, 77, 78, 79, 80, 81, 82, 83] (by decide +kernel) (by decide +kernel)
set_option maxRecDepth 20000 in
theorem gX9_agreement_X3_advance : GoodIn wsX9_agreement (wsV RX9 197 RX3 yX3_advance wsX3_advance) := goodIn_app (goodIn_of _ (by decide +kernel)) ggX9_agreement_X3_advance
theorem dX9_agreement_0 : decode cX9_agreement 0 = .ok (.aload_n 0, 1) := by decide +kernel
theorem dX9_agreement_1 : decode cX9_agreement 1 = .ok (.getfield 38, 3) := by decide +kernel
theorem dX9_agreement_4 : decode cX9_agreement 4 = .ok (.iconst 0, 1) := by decide +kernel
theorem dX9_agreement_5 : decode cX9_agreement 5 = .ok (.invokevirtual 112, 3) := by decide +kernel
theorem dX9_agreement_8 : decode cX9_agreement 8 = .ok (.iconst 0, 1) := by decide +kernel
theorem dX9_agreement_9 : decode cX9_agreement 9 = .ok (.istore_n 1, 1) := by decide +kernel
theorem dX9_agreement_10 : decode cX9_agreement 10 = .ok (.iload_n 1, 1) := by decide +kernel
theorem dX9_agreement_11 : decode cX9_agreement 11 = .ok (.aload_n 0, 1) := by decide +kernel
theorem dX9_agreement_12 : decode cX9_agreement 12 = .ok (.getfield 10, 3) := by decide +kernel
theorem dX9_agreement_15 : decode cX9_agreement 15 = .ok (.invokevirtual 189, 3) := by decide +kernel
theorem dX9_agreement_18 : decode cX9_agreement 18 = .ok (.if_icmp .gt 25, 3) := by decide +kernel
theorem dX9_agreement_21 : decode cX9_agreement 21 = .ok (.aload_n 0, 1) := by decide +kernel
theorem dX9_agreement_22 : decode cX9_agreement 22 = .ok (.invokevirtual 221, 3) := by decide +kernel
theorem dX9_agreement_25 : decode cX9_agreement 25 = .ok (.ifCond .eq 5, 3) := by decide +kernel
theorem dX9_agreement_28 : decode cX9_agreement 28 = .ok (.iload_n 1, 1) := by decide +kernel
theorem dX9_agreement_29 : decode cX9_agreement 29 = .ok (.ireturn, 1) := by decide +kernel
theorem dX9_agreement_30 : decode cX9_agreement 30 = .ok (.aload_n 0, 1) := by decide +kernel
theorem dX9_agreement_31 : decode cX9_agreement 31 = .ok (.getfield 38, 3) := by decide +kernel
theorem dX9_agreement_34 : decode cX9_agreement 34 = .ok (.invokevirtual 197, 3) := by decide +kernel
theorem dX9_agreement_37 : decode cX9_agreement 37 = .ok (.iinc 1 1, 3) := by decide +kernel
theorem dX9_agreement_40 : decode cX9_agreement 40 = .ok (.goto (-30), 3) := by decide +kernel
theorem dX9_agreement_43 : decode cX9_agreement 43 = .ok (.bipush (-9), 2) := by decide +kernel
theorem dX9_agreement_45 : decode cX9_agreement 45 = .ok (.ireturn, 1) := by decide +kernel
set_option maxRecDepth 20000 in
theorem ggX9_counted_X7_hasNode : GoodIn wsX9_counted wsX7_hasNode := goodIn_r _ [7, 8, 108, 109, 110, 111] (by decide +kernel) (by decide +kernel)
set_option maxRecDepth 20000 in
theorem gX9_counted_X7_hasNode : GoodIn wsX9_counted (wsV RX9 109 RX7 yX7_hasNode wsX7_hasNode) := goodIn_app (goodIn_of _ (by decide +kernel)) ggX9_counted_X7_hasNode
set_option maxRecDepth 20000 in
theorem ggX9_counted_X1_run : GoodIn wsX9_counted wsX1_run := goodIn_r _ [13, 14, 15, 16, 17, 18, 12, 19, 20, 21, 22, 23, 6, 24, 8, 25, 26, 27, 28, 29, 30, 31, 32, 33, 34, 35, 36, 37, 38, 39, 40, 41, 42, 43, 44, 45, 46, 47, 48, 49, 50, 51, 52, 53, 54, 55, 56, 57, 58, 59, 60, 61, 62, 63, 64, 65, 66, 67, 68, 69, 70, 71, 72, 73, 4, 5, 7, 74, 75, 76, 77, 78, 79, 80, 81, 82, 83, 84, 85, 86, 87, 88, 89, 90, 91, 92, 93, 94, 95, 112, 113, 114, 115, 108, 109, 110, 111, 116, 117, 118, 119] (by decide +kernel) (by decide +kernel)
set_option maxRecDepth 20000 in
theorem gX9_counted_X1_run : GoodIn wsX9_counted (wsV RX9 224 RX1 yX1_run wsX1_run) := goodIn_app (goodIn_of _ (by decide +kernel)) ggX9_counted_X1_run
set_option maxRecDepth 20000 in
theorem ggX9_counted_X1_answerOf : GoodIn wsX9_counted wsX1_answerOf := goodIn_r _ [99, 20, 15, 100, 4, 5, 6, 7, 8, 112, 113, 114, 115, 108, 109, 110, 111] (by decide +kernel) (by decide +kernel)
set_option maxRecDepth 20000 in
theorem gX9_counted_X1_answerOf : GoodIn wsX9_counted (wsV RX9 227 RX1 yX1_answerOf wsX1_answerOf) := goodIn_app (goodIn_of _ (by decide +kernel)) ggX9_counted_X1_answerOf
theorem dX9_counted_0 : decode cX9_counted 0 = .ok (.aload_n 0, 1) := by decide +kernel
theorem dX9_counted_1 : decode cX9_counted 1 = .ok (.getfield 10, 3) := by decide +kernel
theorem dX9_counted_4 : decode cX9_counted 4 = .ok (.iload_n 1, 1) := by decide +kernel
theorem dX9_counted_5 : decode cX9_counted 5 = .ok (.invokevirtual 109, 3) := by decide +kernel
theorem dX9_counted_8 : decode cX9_counted 8 = .ok (.ifCond .ne 5, 3) := by decide +kernel
theorem dX9_counted_11 : decode cX9_counted 11 = .ok (.iconst (-1), 1) := by decide +kernel
theorem dX9_counted_12 : decode cX9_counted 12 = .ok (.ireturn, 1) := by decide +kernel
theorem dX9_counted_13 : decode cX9_counted 13 = .ok (.aload_n 0, 1) := by decide +kernel
theorem dX9_counted_14 : decode cX9_counted 14 = .ok (.getfield 54, 3) := by decide +kernel
theorem dX9_counted_17 : decode cX9_counted 17 = .ok (.invokevirtual 224, 3) := by decide +kernel
theorem dX9_counted_20 : decode cX9_counted 20 = .ok (.aload_n 0, 1) := by decide +kernel
theorem dX9_counted_21 : decode cX9_counted 21 = .ok (.getfield 54, 3) := by decide +kernel
theorem dX9_counted_24 : decode cX9_counted 24 = .ok (.iload_n 1, 1) := by decide +kernel
theorem dX9_counted_25 : decode cX9_counted 25 = .ok (.invokevirtual 227, 3) := by decide +kernel
theorem dX9_counted_28 : decode cX9_counted 28 = .ok (.ireturn, 1) := by decide +kernel
set_option maxRecDepth 20000 in
theorem ggX9_countingSteps_X1_run : GoodIn wsX9_countingSteps wsX1_run := goodIn_r _ [6, 7, 8, 9, 10, 11, 5, 12, 13, 14, 15, 16, 17, 18, 19, 20, 21, 22, 23, 24, 25, 26, 27, 28, 29, 30, 31, 32, 33, 34, 35, 36, 37, 38, 39, 40, 41, 42, 43, 44, 45, 46, 47, 48, 49, 50, 51, 52, 53, 54, 55, 56, 57, 58, 59, 60, 61, 62, 63, 64, 65, 66, 67, 68, 69, 70, 71, 72, 73, 74, 75, 76, 77, 78, 79, 80, 81, 82, 83, 84, 85, 86, 87, 88, 89, 90, 91, 92, 93, 105, 106, 107, 108, 109, 110, 111, 112, 113, 114, 115, 116] (by decide +kernel) (by decide +kernel)
set_option maxRecDepth 20000 in
theorem gX9_countingSteps_X1_run : GoodIn wsX9_countingSteps (wsV RX9 224 RX1 yX1_run wsX1_run) := goodIn_app (goodIn_of _ (by decide +kernel)) ggX9_countingSteps_X1_run
set_option maxRecDepth 20000 in
theorem ggX9_countingSteps_X1_steps : GoodIn wsX9_countingSteps wsX1_steps := goodIn_r _ [97, 7, 105, 106, 107, 108] (by decide +kernel) (by decide +kernel)
set_option maxRecDepth 20000 in
theorem gX9_countingSteps_X1_steps : GoodIn wsX9_countingSteps (wsV RX9 230 RX1 yX1_steps wsX1_steps) := goodIn_app (goodIn_of _ (by decide +kernel)) ggX9_countingSteps_X1_steps
theorem dX9_countingSteps_0 : decode cX9_countingSteps 0 = .ok (.aload_n 0, 1) := by decide +kernel
theorem dX9_countingSteps_1 : decode cX9_countingSteps 1 = .ok (.getfield 54, 3) := by decide +kernel
theorem dX9_countingSteps_4 : decode cX9_countingSteps 4 = .ok (.invokevirtual 224, 3) := by decide +kernel
theorem dX9_countingSteps_7 : decode cX9_countingSteps 7 = .ok (.aload_n 0, 1) := by decide +kernel
theorem dX9_countingSteps_8 : decode cX9_countingSteps 8 = .ok (.getfield 54, 3) := by decide +kernel
theorem dX9_countingSteps_11 : decode cX9_countingSteps 11 = .ok (.invokevirtual 230, 3) := by decide +kernel
theorem dX9_countingSteps_14 : decode cX9_countingSteps 14 = .ok (.ireturn, 1) := by decide +kernel
set_option maxRecDepth 20000 in
theorem ggX9_wrongCounts_X1_run : GoodIn wsX9_wrongCounts wsX1_run := goodIn_r _ [6, 7, 8, 9, 10, 11, 5, 12, 13, 14, 15, 16, 17, 18, 19, 20, 21, 22, 23, 24, 25, 26, 27, 28, 29, 30, 31, 32, 33, 34, 35, 36, 37, 38, 39, 40, 41, 42, 43, 44, 45, 46, 47, 48, 49, 50, 51, 52, 53, 54, 55, 56, 57, 58, 59, 60, 61, 62, 63, 64, 65, 66, 67, 68, 69, 70, 71, 72, 73, 74, 75, 76, 77, 78, 79, 80, 81, 82, 83, 84, 85, 86, 87, 88, 89, 90, 91, 92, 93, 105, 106, 107, 108, 109, 110, 111, 112, 113, 114, 115, 116] (by decide +kernel) (by decide +kernel)
set_option maxRecDepth 20000 in
theorem gX9_wrongCounts_X1_run : GoodIn wsX9_wrongCounts (wsV RX9 224 RX1 yX1_run wsX1_run) := goodIn_app (goodIn_of _ (by decide +kernel)) ggX9_wrongCounts_X1_run
set_option maxRecDepth 20000 in
theorem ggX9_wrongCounts_X1_wrongAnswers : GoodIn wsX9_wrongCounts wsX1_wrongAnswers := goodIn_r _ [97, 13, 8, 14, 15, 16, 17, 18, 19, 105, 106, 107, 108, 109, 110, 111, 112] (by decide +kernel) (by decide +kernel)
