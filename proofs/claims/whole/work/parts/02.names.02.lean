theorem dX5_init_18 : decode cX5_init 18 = .ok (.if_icmp .ge 22, 3) := by decide +kernel
theorem dX5_init_21 : decode cX5_init 21 = .ok (.aload_n 0, 1) := by decide +kernel
theorem dX5_init_22 : decode cX5_init 22 = .ok (.getfield 11, 3) := by decide +kernel
theorem dX5_init_25 : decode cX5_init 25 = .ok (.iload_n 1, 1) := by decide +kernel
theorem dX5_init_26 : decode cX5_init 26 = .ok (.new 9, 3) := by decide +kernel
theorem dX5_init_29 : decode cX5_init 29 = .ok (.dup, 1) := by decide +kernel
theorem dX5_init_30 : decode cX5_init 30 = .ok (.invokespecial 17, 3) := by decide +kernel
theorem dX5_init_33 : decode cX5_init 33 = .ok (.aastore, 1) := by decide +kernel
theorem dX5_init_34 : decode cX5_init 34 = .ok (.iinc 1 1, 3) := by decide +kernel
theorem dX5_init_37 : decode cX5_init 37 = .ok (.goto (-22), 3) := by decide +kernel
theorem dX5_init_40 : decode cX5_init 40 = .ok (.return_, 1) := by decide +kernel
theorem dX5_size_0 : decode cX5_size 0 = .ok (.aload_n 0, 1) := by decide +kernel
theorem dX5_size_1 : decode cX5_size 1 = .ok (.getfield 18, 3) := by decide +kernel
theorem dX5_size_4 : decode cX5_size 4 = .ok (.ireturn, 1) := by decide +kernel
set_option maxRecDepth 20000 in
theorem ggX5_save_X5_discardOldest : GoodIn wsX5_save wsX5_discardOldest := goodIn_r _ [7, 2, 1, 17, 18] (by decide +kernel) (by decide +kernel)
set_option maxRecDepth 20000 in
theorem gX5_save_X5_discardOldest : GoodIn wsX5_save (wsV RX5 22 RX5 yX5_discardOldest wsX5_discardOldest) := goodIn_app (goodIn_of _ (by decide +kernel)) ggX5_save_X5_discardOldest
set_option maxRecDepth 20000 in
theorem ggX5_save_X7_become : GoodIn wsX5_save wsX7_become := goodIn_r _ [12, 13, 14, 15, 16, 19, 20, 21, 22] (by decide +kernel) (by decide +kernel)
set_option maxRecDepth 20000 in
theorem gX5_save_X7_become : GoodIn wsX5_save (wsV RX5 25 RX7 yX7_become wsX7_become) := goodIn_app (goodIn_of _ (by decide +kernel)) ggX5_save_X7_become
theorem dX5_save_0 : decode cX5_save 0 = .ok (.aload_n 0, 1) := by decide +kernel
theorem dX5_save_1 : decode cX5_save 1 = .ok (.getfield 18, 3) := by decide +kernel
theorem dX5_save_4 : decode cX5_save 4 = .ok (.bipush 6, 2) := by decide +kernel
theorem dX5_save_6 : decode cX5_save 6 = .ok (.if_icmp .lt 7, 3) := by decide +kernel
theorem dX5_save_9 : decode cX5_save 9 = .ok (.aload_n 0, 1) := by decide +kernel
theorem dX5_save_10 : decode cX5_save 10 = .ok (.invokevirtual 22, 3) := by decide +kernel
theorem dX5_save_13 : decode cX5_save 13 = .ok (.aload_n 0, 1) := by decide +kernel
theorem dX5_save_14 : decode cX5_save 14 = .ok (.getfield 11, 3) := by decide +kernel
theorem dX5_save_17 : decode cX5_save 17 = .ok (.aload_n 0, 1) := by decide +kernel
theorem dX5_save_18 : decode cX5_save 18 = .ok (.getfield 18, 3) := by decide +kernel
theorem dX5_save_21 : decode cX5_save 21 = .ok (.aaload, 1) := by decide +kernel
theorem dX5_save_22 : decode cX5_save 22 = .ok (.aload_n 1, 1) := by decide +kernel
theorem dX5_save_23 : decode cX5_save 23 = .ok (.invokevirtual 25, 3) := by decide +kernel
theorem dX5_save_26 : decode cX5_save 26 = .ok (.aload_n 0, 1) := by decide +kernel
theorem dX5_save_27 : decode cX5_save 27 = .ok (.dup, 1) := by decide +kernel
theorem dX5_save_28 : decode cX5_save 28 = .ok (.getfield 18, 3) := by decide +kernel
theorem dX5_save_31 : decode cX5_save 31 = .ok (.iconst 1, 1) := by decide +kernel
theorem dX5_save_32 : decode cX5_save 32 = .ok (.iadd, 1) := by decide +kernel
theorem dX5_save_33 : decode cX5_save 33 = .ok (.putfield 18, 3) := by decide +kernel
theorem dX5_save_36 : decode cX5_save 36 = .ok (.return_, 1) := by decide +kernel
set_option maxRecDepth 20000 in
theorem ggX5_restore_X7_become : GoodIn wsX5_restore wsX7_become := goodIn_r _ [7, 8, 9, 10, 11, 14, 15, 16, 17] (by decide +kernel) (by decide +kernel)
set_option maxRecDepth 20000 in
theorem gX5_restore_X7_become : GoodIn wsX5_restore (wsV RX5 25 RX7 yX7_become wsX7_become) := goodIn_app (goodIn_of _ (by decide +kernel)) ggX5_restore_X7_become
theorem dX5_restore_0 : decode cX5_restore 0 = .ok (.aload_n 0, 1) := by decide +kernel
theorem dX5_restore_1 : decode cX5_restore 1 = .ok (.getfield 18, 3) := by decide +kernel
theorem dX5_restore_4 : decode cX5_restore 4 = .ok (.ifCond .le 26, 3) := by decide +kernel
theorem dX5_restore_7 : decode cX5_restore 7 = .ok (.aload_n 0, 1) := by decide +kernel
theorem dX5_restore_8 : decode cX5_restore 8 = .ok (.dup, 1) := by decide +kernel
theorem dX5_restore_9 : decode cX5_restore 9 = .ok (.getfield 18, 3) := by decide +kernel
theorem dX5_restore_12 : decode cX5_restore 12 = .ok (.iconst 1, 1) := by decide +kernel
theorem dX5_restore_13 : decode cX5_restore 13 = .ok (.isub, 1) := by decide +kernel
theorem dX5_restore_14 : decode cX5_restore 14 = .ok (.putfield 18, 3) := by decide +kernel
theorem dX5_restore_17 : decode cX5_restore 17 = .ok (.aload_n 1, 1) := by decide +kernel
theorem dX5_restore_18 : decode cX5_restore 18 = .ok (.aload_n 0, 1) := by decide +kernel
theorem dX5_restore_19 : decode cX5_restore 19 = .ok (.getfield 11, 3) := by decide +kernel
theorem dX5_restore_22 : decode cX5_restore 22 = .ok (.aload_n 0, 1) := by decide +kernel
theorem dX5_restore_23 : decode cX5_restore 23 = .ok (.getfield 18, 3) := by decide +kernel
theorem dX5_restore_26 : decode cX5_restore 26 = .ok (.aaload, 1) := by decide +kernel
theorem dX5_restore_27 : decode cX5_restore 27 = .ok (.invokevirtual 25, 3) := by decide +kernel
theorem dX5_restore_30 : decode cX5_restore 30 = .ok (.return_, 1) := by decide +kernel
theorem dX5_discardOldest_0 : decode cX5_discardOldest 0 = .ok (.aload_n 0, 1) := by decide +kernel
theorem dX5_discardOldest_1 : decode cX5_discardOldest 1 = .ok (.getfield 11, 3) := by decide +kernel
theorem dX5_discardOldest_4 : decode cX5_discardOldest 4 = .ok (.iconst 0, 1) := by decide +kernel
theorem dX5_discardOldest_5 : decode cX5_discardOldest 5 = .ok (.aaload, 1) := by decide +kernel
theorem dX5_discardOldest_6 : decode cX5_discardOldest 6 = .ok (.astore_n 1, 1) := by decide +kernel
theorem dX5_discardOldest_7 : decode cX5_discardOldest 7 = .ok (.iconst 1, 1) := by decide +kernel
theorem dX5_discardOldest_8 : decode cX5_discardOldest 8 = .ok (.istore_n 2, 1) := by decide +kernel
theorem dX5_discardOldest_9 : decode cX5_discardOldest 9 = .ok (.iload_n 2, 1) := by decide +kernel
theorem dX5_discardOldest_10 : decode cX5_discardOldest 10 = .ok (.bipush 6, 2) := by decide +kernel
theorem dX5_discardOldest_12 : decode cX5_discardOldest 12 = .ok (.if_icmp .ge 23, 3) := by decide +kernel
theorem dX5_discardOldest_15 : decode cX5_discardOldest 15 = .ok (.aload_n 0, 1) := by decide +kernel
theorem dX5_discardOldest_16 : decode cX5_discardOldest 16 = .ok (.getfield 11, 3) := by decide +kernel
theorem dX5_discardOldest_19 : decode cX5_discardOldest 19 = .ok (.iload_n 2, 1) := by decide +kernel
theorem dX5_discardOldest_20 : decode cX5_discardOldest 20 = .ok (.iconst 1, 1) := by decide +kernel
theorem dX5_discardOldest_21 : decode cX5_discardOldest 21 = .ok (.isub, 1) := by decide +kernel
theorem dX5_discardOldest_22 : decode cX5_discardOldest 22 = .ok (.aload_n 0, 1) := by decide +kernel
theorem dX5_discardOldest_23 : decode cX5_discardOldest 23 = .ok (.getfield 11, 3) := by decide +kernel
theorem dX5_discardOldest_26 : decode cX5_discardOldest 26 = .ok (.iload_n 2, 1) := by decide +kernel
theorem dX5_discardOldest_27 : decode cX5_discardOldest 27 = .ok (.aaload, 1) := by decide +kernel
theorem dX5_discardOldest_28 : decode cX5_discardOldest 28 = .ok (.aastore, 1) := by decide +kernel
theorem dX5_discardOldest_29 : decode cX5_discardOldest 29 = .ok (.iinc 2 1, 3) := by decide +kernel
theorem dX5_discardOldest_32 : decode cX5_discardOldest 32 = .ok (.goto (-23), 3) := by decide +kernel
theorem dX5_discardOldest_35 : decode cX5_discardOldest 35 = .ok (.aload_n 0, 1) := by decide +kernel
theorem dX5_discardOldest_36 : decode cX5_discardOldest 36 = .ok (.getfield 11, 3) := by decide +kernel
theorem dX5_discardOldest_39 : decode cX5_discardOldest 39 = .ok (.iconst 5, 1) := by decide +kernel
theorem dX5_discardOldest_40 : decode cX5_discardOldest 40 = .ok (.aload_n 1, 1) := by decide +kernel
theorem dX5_discardOldest_41 : decode cX5_discardOldest 41 = .ok (.aastore, 1) := by decide +kernel
theorem dX5_discardOldest_42 : decode cX5_discardOldest 42 = .ok (.aload_n 0, 1) := by decide +kernel
theorem dX5_discardOldest_43 : decode cX5_discardOldest 43 = .ok (.dup, 1) := by decide +kernel
theorem dX5_discardOldest_44 : decode cX5_discardOldest 44 = .ok (.getfield 18, 3) := by decide +kernel
theorem dX5_discardOldest_47 : decode cX5_discardOldest 47 = .ok (.iconst 1, 1) := by decide +kernel
theorem dX5_discardOldest_48 : decode cX5_discardOldest 48 = .ok (.isub, 1) := by decide +kernel
theorem dX5_discardOldest_49 : decode cX5_discardOldest 49 = .ok (.putfield 18, 3) := by decide +kernel
theorem dX5_discardOldest_52 : decode cX5_discardOldest 52 = .ok (.return_, 1) := by decide +kernel
theorem dX6_of_0 : decode cX6_of 0 = .ok (.iconst 1, 1) := by decide +kernel
theorem dX6_of_1 : decode cX6_of 1 = .ok (.iload_n 0, 1) := by decide +kernel
theorem dX6_of_2 : decode cX6_of 2 = .ok (.ishl, 1) := by decide +kernel
theorem dX6_of_3 : decode cX6_of 3 = .ok (.ireturn, 1) := by decide +kernel
theorem dX6_firstOnes_0 : decode cX6_firstOnes 0 = .ok (.iconst 1, 1) := by decide +kernel
theorem dX6_firstOnes_1 : decode cX6_firstOnes 1 = .ok (.iload_n 0, 1) := by decide +kernel
theorem dX6_firstOnes_2 : decode cX6_firstOnes 2 = .ok (.ishl, 1) := by decide +kernel
theorem dX6_firstOnes_3 : decode cX6_firstOnes 3 = .ok (.iconst 1, 1) := by decide +kernel
theorem dX6_firstOnes_4 : decode cX6_firstOnes 4 = .ok (.isub, 1) := by decide +kernel
theorem dX6_firstOnes_5 : decode cX6_firstOnes 5 = .ok (.ireturn, 1) := by decide +kernel
theorem dX6_has_0 : decode cX6_has 0 = .ok (.iload_n 0, 1) := by decide +kernel
theorem dX6_has_1 : decode cX6_has 1 = .ok (.iconst 1, 1) := by decide +kernel
theorem dX6_has_2 : decode cX6_has 2 = .ok (.iload_n 1, 1) := by decide +kernel
theorem dX6_has_3 : decode cX6_has 3 = .ok (.ishl, 1) := by decide +kernel
theorem dX6_has_4 : decode cX6_has 4 = .ok (.iand, 1) := by decide +kernel
theorem dX6_has_5 : decode cX6_has 5 = .ok (.ifCond .eq 7, 3) := by decide +kernel
theorem dX6_has_8 : decode cX6_has 8 = .ok (.iconst 1, 1) := by decide +kernel
theorem dX6_has_9 : decode cX6_has 9 = .ok (.goto 4, 3) := by decide +kernel
theorem dX6_has_12 : decode cX6_has 12 = .ok (.iconst 0, 1) := by decide +kernel
theorem dX6_has_13 : decode cX6_has 13 = .ok (.ireturn, 1) := by decide +kernel
set_option maxRecDepth 20000 in
theorem ggX6_smallest_X6_has : GoodIn wsX6_smallest wsX6_has := goodIn_r _ [4] (by decide +kernel) (by decide +kernel)
set_option maxRecDepth 20000 in
theorem gX6_smallest_X6_has : GoodIn wsX6_smallest (va_wsS RX6 9 yX6_has wsX6_has) := goodIn_app (goodIn_of _ (by decide +kernel)) ggX6_smallest_X6_has
theorem dX6_smallest_0 : decode cX6_smallest 0 = .ok (.iconst 0, 1) := by decide +kernel
theorem dX6_smallest_1 : decode cX6_smallest 1 = .ok (.istore_n 1, 1) := by decide +kernel
theorem dX6_smallest_2 : decode cX6_smallest 2 = .ok (.iload_n 1, 1) := by decide +kernel
theorem dX6_smallest_3 : decode cX6_smallest 3 = .ok (.bipush 7, 2) := by decide +kernel
theorem dX6_smallest_5 : decode cX6_smallest 5 = .ok (.if_icmp .ge 17, 3) := by decide +kernel
theorem dX6_smallest_8 : decode cX6_smallest 8 = .ok (.iload_n 0, 1) := by decide +kernel
theorem dX6_smallest_9 : decode cX6_smallest 9 = .ok (.iload_n 1, 1) := by decide +kernel
theorem dX6_smallest_10 : decode cX6_smallest 10 = .ok (.invokestatic 9, 3) := by decide +kernel
theorem dX6_smallest_13 : decode cX6_smallest 13 = .ok (.ifCond .ne 9, 3) := by decide +kernel
theorem dX6_smallest_16 : decode cX6_smallest 16 = .ok (.iinc 1 1, 3) := by decide +kernel
theorem dX6_smallest_19 : decode cX6_smallest 19 = .ok (.goto (-17), 3) := by decide +kernel
theorem dX6_smallest_22 : decode cX6_smallest 22 = .ok (.iload_n 1, 1) := by decide +kernel
theorem dX6_smallest_23 : decode cX6_smallest 23 = .ok (.ireturn, 1) := by decide +kernel
set_option maxRecDepth 20000 in
theorem ggX6_greatest_X6_has : GoodIn wsX6_greatest wsX6_has := goodIn_r _ [4] (by decide +kernel) (by decide +kernel)
set_option maxRecDepth 20000 in
theorem gX6_greatest_X6_has : GoodIn wsX6_greatest (va_wsS RX6 9 yX6_has wsX6_has) := goodIn_app (goodIn_of _ (by decide +kernel)) ggX6_greatest_X6_has
theorem dX6_greatest_0 : decode cX6_greatest 0 = .ok (.bipush 7, 2) := by decide +kernel
theorem dX6_greatest_2 : decode cX6_greatest 2 = .ok (.istore_n 1, 1) := by decide +kernel
theorem dX6_greatest_3 : decode cX6_greatest 3 = .ok (.iload_n 1, 1) := by decide +kernel
theorem dX6_greatest_4 : decode cX6_greatest 4 = .ok (.ifCond .le 17, 3) := by decide +kernel
theorem dX6_greatest_7 : decode cX6_greatest 7 = .ok (.iload_n 0, 1) := by decide +kernel
theorem dX6_greatest_8 : decode cX6_greatest 8 = .ok (.iload_n 1, 1) := by decide +kernel
theorem dX6_greatest_9 : decode cX6_greatest 9 = .ok (.invokestatic 9, 3) := by decide +kernel
theorem dX6_greatest_12 : decode cX6_greatest 12 = .ok (.ifCond .ne 9, 3) := by decide +kernel
theorem dX6_greatest_15 : decode cX6_greatest 15 = .ok (.iinc 1 (-1), 3) := by decide +kernel
theorem dX6_greatest_18 : decode cX6_greatest 18 = .ok (.goto (-15), 3) := by decide +kernel
theorem dX6_greatest_21 : decode cX6_greatest 21 = .ok (.iload_n 1, 1) := by decide +kernel
theorem dX6_greatest_22 : decode cX6_greatest 22 = .ok (.ireturn, 1) := by decide +kernel
set_option maxRecDepth 20000 in
theorem ggX7_init_X7_beginAnew : GoodIn wsX7_init wsX7_beginAnew := goodIn_r _ [11, 12, 13, 6, 14, 15, 16, 17] (by decide +kernel) (by decide +kernel)
set_option maxRecDepth 20000 in
theorem gX7_init_X7_beginAnew : GoodIn wsX7_init (wsV RX7 18 RX7 yX7_beginAnew wsX7_beginAnew) := goodIn_app (goodIn_of _ (by decide +kernel)) ggX7_init_X7_beginAnew
theorem dX7_init_0 : decode cX7_init 0 = .ok (.aload_n 0, 1) := by decide +kernel
theorem dX7_init_1 : decode cX7_init 1 = .ok (.invokespecial 3, 3) := by decide +kernel
theorem dX7_init_4 : decode cX7_init 4 = .ok (.aload_n 0, 1) := by decide +kernel
theorem dX7_init_5 : decode cX7_init 5 = .ok (.bipush 16, 2) := by decide +kernel
theorem dX7_init_7 : decode cX7_init 7 = .ok (.newarray .int, 2) := by decide +kernel
theorem dX7_init_9 : decode cX7_init 9 = .ok (.putfield 9, 3) := by decide +kernel
theorem dX7_init_12 : decode cX7_init 12 = .ok (.aload_n 0, 1) := by decide +kernel
theorem dX7_init_13 : decode cX7_init 13 = .ok (.bipush 8, 2) := by decide +kernel
theorem dX7_init_15 : decode cX7_init 15 = .ok (.newarray .int, 2) := by decide +kernel
theorem dX7_init_17 : decode cX7_init 17 = .ok (.putfield 15, 3) := by decide +kernel
theorem dX7_init_20 : decode cX7_init 20 = .ok (.aload_n 0, 1) := by decide +kernel
theorem dX7_init_21 : decode cX7_init 21 = .ok (.iconst 4, 1) := by decide +kernel
theorem dX7_init_22 : decode cX7_init 22 = .ok (.invokevirtual 18, 3) := by decide +kernel
theorem dX7_init_25 : decode cX7_init 25 = .ok (.return_, 1) := by decide +kernel
theorem dX7_beginAnew_0 : decode cX7_beginAnew 0 = .ok (.aload_n 0, 1) := by decide +kernel
theorem dX7_beginAnew_1 : decode cX7_beginAnew 1 = .ok (.iload_n 1, 1) := by decide +kernel
theorem dX7_beginAnew_2 : decode cX7_beginAnew 2 = .ok (.putfield 22, 3) := by decide +kernel
theorem dX7_beginAnew_5 : decode cX7_beginAnew 5 = .ok (.aload_n 0, 1) := by decide +kernel
theorem dX7_beginAnew_6 : decode cX7_beginAnew 6 = .ok (.iconst 0, 1) := by decide +kernel
theorem dX7_beginAnew_7 : decode cX7_beginAnew 7 = .ok (.putfield 26, 3) := by decide +kernel
theorem dX7_beginAnew_10 : decode cX7_beginAnew 10 = .ok (.iconst 0, 1) := by decide +kernel
theorem dX7_beginAnew_11 : decode cX7_beginAnew 11 = .ok (.istore_n 2, 1) := by decide +kernel
theorem dX7_beginAnew_12 : decode cX7_beginAnew 12 = .ok (.iload_n 2, 1) := by decide +kernel
theorem dX7_beginAnew_13 : decode cX7_beginAnew 13 = .ok (.bipush 8, 2) := by decide +kernel
theorem dX7_beginAnew_15 : decode cX7_beginAnew 15 = .ok (.if_icmp .ge 16, 3) := by decide +kernel
theorem dX7_beginAnew_18 : decode cX7_beginAnew 18 = .ok (.aload_n 0, 1) := by decide +kernel
theorem dX7_beginAnew_19 : decode cX7_beginAnew 19 = .ok (.getfield 15, 3) := by decide +kernel
theorem dX7_beginAnew_22 : decode cX7_beginAnew 22 = .ok (.iload_n 2, 1) := by decide +kernel
theorem dX7_beginAnew_23 : decode cX7_beginAnew 23 = .ok (.iload_n 2, 1) := by decide +kernel
theorem dX7_beginAnew_24 : decode cX7_beginAnew 24 = .ok (.iastore, 1) := by decide +kernel
theorem dX7_beginAnew_25 : decode cX7_beginAnew 25 = .ok (.iinc 2 1, 3) := by decide +kernel
theorem dX7_beginAnew_28 : decode cX7_beginAnew 28 = .ok (.goto (-16), 3) := by decide +kernel
theorem dX7_beginAnew_31 : decode cX7_beginAnew 31 = .ok (.return_, 1) := by decide +kernel
theorem dX7_become_0 : decode cX7_become 0 = .ok (.aload_n 0, 1) := by decide +kernel
theorem dX7_become_1 : decode cX7_become 1 = .ok (.aload_n 1, 1) := by decide +kernel
theorem dX7_become_2 : decode cX7_become 2 = .ok (.getfield 22, 3) := by decide +kernel
theorem dX7_become_5 : decode cX7_become 5 = .ok (.putfield 22, 3) := by decide +kernel
theorem dX7_become_8 : decode cX7_become 8 = .ok (.aload_n 0, 1) := by decide +kernel
theorem dX7_become_9 : decode cX7_become 9 = .ok (.aload_n 1, 1) := by decide +kernel
theorem dX7_become_10 : decode cX7_become 10 = .ok (.getfield 26, 3) := by decide +kernel
theorem dX7_become_13 : decode cX7_become 13 = .ok (.putfield 26, 3) := by decide +kernel
theorem dX7_become_16 : decode cX7_become 16 = .ok (.iconst 0, 1) := by decide +kernel
theorem dX7_become_17 : decode cX7_become 17 = .ok (.istore_n 2, 1) := by decide +kernel
theorem dX7_become_18 : decode cX7_become 18 = .ok (.iload_n 2, 1) := by decide +kernel
theorem dX7_become_19 : decode cX7_become 19 = .ok (.bipush 16, 2) := by decide +kernel
theorem dX7_become_21 : decode cX7_become 21 = .ok (.if_icmp .ge 21, 3) := by decide +kernel
theorem dX7_become_24 : decode cX7_become 24 = .ok (.aload_n 0, 1) := by decide +kernel
theorem dX7_become_25 : decode cX7_become 25 = .ok (.getfield 9, 3) := by decide +kernel
theorem dX7_become_28 : decode cX7_become 28 = .ok (.iload_n 2, 1) := by decide +kernel
theorem dX7_become_29 : decode cX7_become 29 = .ok (.aload_n 1, 1) := by decide +kernel
theorem dX7_become_30 : decode cX7_become 30 = .ok (.getfield 9, 3) := by decide +kernel
theorem dX7_become_33 : decode cX7_become 33 = .ok (.iload_n 2, 1) := by decide +kernel
theorem dX7_become_34 : decode cX7_become 34 = .ok (.iaload, 1) := by decide +kernel
theorem dX7_become_35 : decode cX7_become 35 = .ok (.iastore, 1) := by decide +kernel
theorem dX7_become_36 : decode cX7_become 36 = .ok (.iinc 2 1, 3) := by decide +kernel
theorem dX7_become_39 : decode cX7_become 39 = .ok (.goto (-21), 3) := by decide +kernel
theorem dX7_become_42 : decode cX7_become 42 = .ok (.iconst 0, 1) := by decide +kernel
theorem dX7_become_43 : decode cX7_become 43 = .ok (.istore_n 2, 1) := by decide +kernel
theorem dX7_become_44 : decode cX7_become 44 = .ok (.iload_n 2, 1) := by decide +kernel
theorem dX7_become_45 : decode cX7_become 45 = .ok (.bipush 8, 2) := by decide +kernel
theorem dX7_become_47 : decode cX7_become 47 = .ok (.if_icmp .ge 21, 3) := by decide +kernel
theorem dX7_become_50 : decode cX7_become 50 = .ok (.aload_n 0, 1) := by decide +kernel
theorem dX7_become_51 : decode cX7_become 51 = .ok (.getfield 15, 3) := by decide +kernel
theorem dX7_become_54 : decode cX7_become 54 = .ok (.iload_n 2, 1) := by decide +kernel
theorem dX7_become_55 : decode cX7_become 55 = .ok (.aload_n 1, 1) := by decide +kernel
theorem dX7_become_56 : decode cX7_become 56 = .ok (.getfield 15, 3) := by decide +kernel
theorem dX7_become_59 : decode cX7_become 59 = .ok (.iload_n 2, 1) := by decide +kernel
theorem dX7_become_60 : decode cX7_become 60 = .ok (.iaload, 1) := by decide +kernel
theorem dX7_become_61 : decode cX7_become 61 = .ok (.iastore, 1) := by decide +kernel
theorem dX7_become_62 : decode cX7_become 62 = .ok (.iinc 2 1, 3) := by decide +kernel
theorem dX7_become_65 : decode cX7_become 65 = .ok (.goto (-21), 3) := by decide +kernel
theorem dX7_become_68 : decode cX7_become 68 = .ok (.return_, 1) := by decide +kernel
theorem dX7_nodes_0 : decode cX7_nodes 0 = .ok (.aload_n 0, 1) := by decide +kernel
theorem dX7_nodes_1 : decode cX7_nodes 1 = .ok (.getfield 22, 3) := by decide +kernel
theorem dX7_nodes_4 : decode cX7_nodes 4 = .ok (.ireturn, 1) := by decide +kernel
theorem dX7_rounds_0 : decode cX7_rounds 0 = .ok (.aload_n 0, 1) := by decide +kernel
theorem dX7_rounds_1 : decode cX7_rounds 1 = .ok (.getfield 26, 3) := by decide +kernel
theorem dX7_rounds_4 : decode cX7_rounds 4 = .ok (.ireturn, 1) := by decide +kernel
theorem dX7_isFull_0 : decode cX7_isFull 0 = .ok (.aload_n 0, 1) := by decide +kernel
theorem dX7_isFull_1 : decode cX7_isFull 1 = .ok (.getfield 26, 3) := by decide +kernel
theorem dX7_isFull_4 : decode cX7_isFull 4 = .ok (.bipush 16, 2) := by decide +kernel
theorem dX7_isFull_6 : decode cX7_isFull 6 = .ok (.if_icmp .lt 7, 3) := by decide +kernel
theorem dX7_isFull_9 : decode cX7_isFull 9 = .ok (.iconst 1, 1) := by decide +kernel
theorem dX7_isFull_10 : decode cX7_isFull 10 = .ok (.goto 4, 3) := by decide +kernel
theorem dX7_isFull_13 : decode cX7_isFull 13 = .ok (.iconst 0, 1) := by decide +kernel
theorem dX7_isFull_14 : decode cX7_isFull 14 = .ok (.ireturn, 1) := by decide +kernel
theorem dX7_hasNode_0 : decode cX7_hasNode 0 = .ok (.iload_n 1, 1) := by decide +kernel
theorem dX7_hasNode_1 : decode cX7_hasNode 1 = .ok (.ifCond .lt 15, 3) := by decide +kernel
theorem dX7_hasNode_4 : decode cX7_hasNode 4 = .ok (.iload_n 1, 1) := by decide +kernel
theorem dX7_hasNode_5 : decode cX7_hasNode 5 = .ok (.aload_n 0, 1) := by decide +kernel
theorem dX7_hasNode_6 : decode cX7_hasNode 6 = .ok (.getfield 22, 3) := by decide +kernel
theorem dX7_hasNode_9 : decode cX7_hasNode 9 = .ok (.if_icmp .ge 7, 3) := by decide +kernel
theorem dX7_hasNode_12 : decode cX7_hasNode 12 = .ok (.iconst 1, 1) := by decide +kernel
theorem dX7_hasNode_13 : decode cX7_hasNode 13 = .ok (.goto 4, 3) := by decide +kernel
theorem dX7_hasNode_16 : decode cX7_hasNode 16 = .ok (.iconst 0, 1) := by decide +kernel
theorem dX7_hasNode_17 : decode cX7_hasNode 17 = .ok (.ireturn, 1) := by decide +kernel
theorem dX7_hasRound_0 : decode cX7_hasRound 0 = .ok (.iload_n 1, 1) := by decide +kernel
theorem dX7_hasRound_1 : decode cX7_hasRound 1 = .ok (.ifCond .lt 15, 3) := by decide +kernel
theorem dX7_hasRound_4 : decode cX7_hasRound 4 = .ok (.iload_n 1, 1) := by decide +kernel
theorem dX7_hasRound_5 : decode cX7_hasRound 5 = .ok (.aload_n 0, 1) := by decide +kernel
theorem dX7_hasRound_6 : decode cX7_hasRound 6 = .ok (.getfield 26, 3) := by decide +kernel
theorem dX7_hasRound_9 : decode cX7_hasRound 9 = .ok (.if_icmp .ge 7, 3) := by decide +kernel
theorem dX7_hasRound_12 : decode cX7_hasRound 12 = .ok (.iconst 1, 1) := by decide +kernel
theorem dX7_hasRound_13 : decode cX7_hasRound 13 = .ok (.goto 4, 3) := by decide +kernel
theorem dX7_hasRound_16 : decode cX7_hasRound 16 = .ok (.iconst 0, 1) := by decide +kernel
theorem dX7_hasRound_17 : decode cX7_hasRound 17 = .ok (.ireturn, 1) := by decide +kernel
set_option maxRecDepth 20000 in
theorem ggX7_hasPlace_X7_hasRound : GoodIn wsX7_hasPlace wsX7_hasRound := goodIn_r _ [5, 6, 12, 13, 14, 15] (by decide +kernel) (by decide +kernel)
set_option maxRecDepth 20000 in
theorem gX7_hasPlace_X7_hasRound : GoodIn wsX7_hasPlace (wsV RX7 29 RX7 yX7_hasRound wsX7_hasRound) := goodIn_app (goodIn_of _ (by decide +kernel)) ggX7_hasPlace_X7_hasRound
set_option maxRecDepth 20000 in
theorem ggX7_hasPlace_X7_hasNode : GoodIn wsX7_hasPlace wsX7_hasNode := goodIn_r _ [10, 11, 12, 13, 14, 15] (by decide +kernel) (by decide +kernel)
set_option maxRecDepth 20000 in
theorem gX7_hasPlace_X7_hasNode : GoodIn wsX7_hasPlace (wsV RX7 33 RX7 yX7_hasNode wsX7_hasNode) := goodIn_app (goodIn_of _ (by decide +kernel)) ggX7_hasPlace_X7_hasNode
theorem dX7_hasPlace_0 : decode cX7_hasPlace 0 = .ok (.aload_n 0, 1) := by decide +kernel
theorem dX7_hasPlace_1 : decode cX7_hasPlace 1 = .ok (.iload_n 1, 1) := by decide +kernel
theorem dX7_hasPlace_2 : decode cX7_hasPlace 2 = .ok (.invokevirtual 29, 3) := by decide +kernel
theorem dX7_hasPlace_5 : decode cX7_hasPlace 5 = .ok (.ifCond .eq 28, 3) := by decide +kernel
theorem dX7_hasPlace_8 : decode cX7_hasPlace 8 = .ok (.aload_n 0, 1) := by decide +kernel
theorem dX7_hasPlace_9 : decode cX7_hasPlace 9 = .ok (.iload_n 2, 1) := by decide +kernel
theorem dX7_hasPlace_10 : decode cX7_hasPlace 10 = .ok (.invokevirtual 33, 3) := by decide +kernel
theorem dX7_hasPlace_13 : decode cX7_hasPlace 13 = .ok (.ifCond .eq 20, 3) := by decide +kernel
theorem dX7_hasPlace_16 : decode cX7_hasPlace 16 = .ok (.aload_n 0, 1) := by decide +kernel
theorem dX7_hasPlace_17 : decode cX7_hasPlace 17 = .ok (.iload_n 3, 1) := by decide +kernel
theorem dX7_hasPlace_18 : decode cX7_hasPlace 18 = .ok (.invokevirtual 33, 3) := by decide +kernel
theorem dX7_hasPlace_21 : decode cX7_hasPlace 21 = .ok (.ifCond .eq 12, 3) := by decide +kernel
theorem dX7_hasPlace_24 : decode cX7_hasPlace 24 = .ok (.iload_n 2, 1) := by decide +kernel
theorem dX7_hasPlace_25 : decode cX7_hasPlace 25 = .ok (.iload_n 3, 1) := by decide +kernel
theorem dX7_hasPlace_26 : decode cX7_hasPlace 26 = .ok (.if_icmp .eq 7, 3) := by decide +kernel
theorem dX7_hasPlace_29 : decode cX7_hasPlace 29 = .ok (.iconst 1, 1) := by decide +kernel
theorem dX7_hasPlace_30 : decode cX7_hasPlace 30 = .ok (.goto 4, 3) := by decide +kernel
theorem dX7_hasPlace_33 : decode cX7_hasPlace 33 = .ok (.iconst 0, 1) := by decide +kernel
theorem dX7_hasPlace_34 : decode cX7_hasPlace 34 = .ok (.ireturn, 1) := by decide +kernel
set_option maxRecDepth 20000 in
theorem ggX7_append_X7_isFull : GoodIn wsX7_append wsX7_isFull := goodIn_r _ [7, 2, 8, 9, 10, 11] (by decide +kernel) (by decide +kernel)
set_option maxRecDepth 20000 in
theorem gX7_append_X7_isFull : GoodIn wsX7_append (wsV RX7 36 RX7 yX7_isFull wsX7_isFull) := goodIn_app (goodIn_of _ (by decide +kernel)) ggX7_append_X7_isFull
theorem dX7_append_0 : decode cX7_append 0 = .ok (.aload_n 0, 1) := by decide +kernel
theorem dX7_append_1 : decode cX7_append 1 = .ok (.invokevirtual 36, 3) := by decide +kernel
theorem dX7_append_4 : decode cX7_append 4 = .ok (.ifCond .ne 23, 3) := by decide +kernel
theorem dX7_append_7 : decode cX7_append 7 = .ok (.aload_n 0, 1) := by decide +kernel
theorem dX7_append_8 : decode cX7_append 8 = .ok (.getfield 9, 3) := by decide +kernel
theorem dX7_append_11 : decode cX7_append 11 = .ok (.aload_n 0, 1) := by decide +kernel
theorem dX7_append_12 : decode cX7_append 12 = .ok (.getfield 26, 3) := by decide +kernel
theorem dX7_append_15 : decode cX7_append 15 = .ok (.iload_n 1, 1) := by decide +kernel
theorem dX7_append_16 : decode cX7_append 16 = .ok (.iastore, 1) := by decide +kernel
theorem dX7_append_17 : decode cX7_append 17 = .ok (.aload_n 0, 1) := by decide +kernel
theorem dX7_append_18 : decode cX7_append 18 = .ok (.dup, 1) := by decide +kernel
theorem dX7_append_19 : decode cX7_append 19 = .ok (.getfield 26, 3) := by decide +kernel
theorem dX7_append_22 : decode cX7_append 22 = .ok (.iconst 1, 1) := by decide +kernel
theorem dX7_append_23 : decode cX7_append 23 = .ok (.iadd, 1) := by decide +kernel
theorem dX7_append_24 : decode cX7_append 24 = .ok (.putfield 26, 3) := by decide +kernel
theorem dX7_append_27 : decode cX7_append 27 = .ok (.return_, 1) := by decide +kernel
set_option maxRecDepth 20000 in
theorem ggX7_replace_X7_hasRound : GoodIn wsX7_replace wsX7_hasRound := goodIn_r _ [6, 7, 8, 9, 10, 11] (by decide +kernel) (by decide +kernel)
set_option maxRecDepth 20000 in
theorem gX7_replace_X7_hasRound : GoodIn wsX7_replace (wsV RX7 29 RX7 yX7_hasRound wsX7_hasRound) := goodIn_app (goodIn_of _ (by decide +kernel)) ggX7_replace_X7_hasRound
theorem dX7_replace_0 : decode cX7_replace 0 = .ok (.aload_n 0, 1) := by decide +kernel
theorem dX7_replace_1 : decode cX7_replace 1 = .ok (.iload_n 1, 1) := by decide +kernel
theorem dX7_replace_2 : decode cX7_replace 2 = .ok (.invokevirtual 29, 3) := by decide +kernel
theorem dX7_replace_5 : decode cX7_replace 5 = .ok (.ifCond .eq 10, 3) := by decide +kernel
theorem dX7_replace_8 : decode cX7_replace 8 = .ok (.aload_n 0, 1) := by decide +kernel
theorem dX7_replace_9 : decode cX7_replace 9 = .ok (.getfield 9, 3) := by decide +kernel
theorem dX7_replace_12 : decode cX7_replace 12 = .ok (.iload_n 1, 1) := by decide +kernel
theorem dX7_replace_13 : decode cX7_replace 13 = .ok (.iload_n 2, 1) := by decide +kernel
theorem dX7_replace_14 : decode cX7_replace 14 = .ok (.iastore, 1) := by decide +kernel
theorem dX7_replace_15 : decode cX7_replace 15 = .ok (.return_, 1) := by decide +kernel
set_option maxRecDepth 20000 in
theorem ggX7_removeAt_X7_hasRound : GoodIn wsX7_removeAt wsX7_hasRound := goodIn_r _ [7, 1, 8, 9, 10, 11] (by decide +kernel) (by decide +kernel)
set_option maxRecDepth 20000 in
theorem gX7_removeAt_X7_hasRound : GoodIn wsX7_removeAt (wsV RX7 29 RX7 yX7_hasRound wsX7_hasRound) := goodIn_app (goodIn_of _ (by decide +kernel)) ggX7_removeAt_X7_hasRound
theorem dX7_removeAt_0 : decode cX7_removeAt 0 = .ok (.aload_n 0, 1) := by decide +kernel
theorem dX7_removeAt_1 : decode cX7_removeAt 1 = .ok (.iload_n 1, 1) := by decide +kernel
theorem dX7_removeAt_2 : decode cX7_removeAt 2 = .ok (.invokevirtual 29, 3) := by decide +kernel
theorem dX7_removeAt_5 : decode cX7_removeAt 5 = .ok (.ifCond .eq 45, 3) := by decide +kernel
theorem dX7_removeAt_8 : decode cX7_removeAt 8 = .ok (.iload_n 1, 1) := by decide +kernel
theorem dX7_removeAt_9 : decode cX7_removeAt 9 = .ok (.iconst 1, 1) := by decide +kernel
theorem dX7_removeAt_10 : decode cX7_removeAt 10 = .ok (.iadd, 1) := by decide +kernel
theorem dX7_removeAt_11 : decode cX7_removeAt 11 = .ok (.istore_n 2, 1) := by decide +kernel
theorem dX7_removeAt_12 : decode cX7_removeAt 12 = .ok (.iload_n 2, 1) := by decide +kernel
theorem dX7_removeAt_13 : decode cX7_removeAt 13 = .ok (.aload_n 0, 1) := by decide +kernel
theorem dX7_removeAt_14 : decode cX7_removeAt 14 = .ok (.getfield 26, 3) := by decide +kernel
theorem dX7_removeAt_17 : decode cX7_removeAt 17 = .ok (.if_icmp .ge 23, 3) := by decide +kernel
theorem dX7_removeAt_20 : decode cX7_removeAt 20 = .ok (.aload_n 0, 1) := by decide +kernel
theorem dX7_removeAt_21 : decode cX7_removeAt 21 = .ok (.getfield 9, 3) := by decide +kernel
theorem dX7_removeAt_24 : decode cX7_removeAt 24 = .ok (.iload_n 2, 1) := by decide +kernel
theorem dX7_removeAt_25 : decode cX7_removeAt 25 = .ok (.iconst 1, 1) := by decide +kernel
theorem dX7_removeAt_26 : decode cX7_removeAt 26 = .ok (.isub, 1) := by decide +kernel
theorem dX7_removeAt_27 : decode cX7_removeAt 27 = .ok (.aload_n 0, 1) := by decide +kernel
theorem dX7_removeAt_28 : decode cX7_removeAt 28 = .ok (.getfield 9, 3) := by decide +kernel
theorem dX7_removeAt_31 : decode cX7_removeAt 31 = .ok (.iload_n 2, 1) := by decide +kernel
theorem dX7_removeAt_32 : decode cX7_removeAt 32 = .ok (.iaload, 1) := by decide +kernel
theorem dX7_removeAt_33 : decode cX7_removeAt 33 = .ok (.iastore, 1) := by decide +kernel
theorem dX7_removeAt_34 : decode cX7_removeAt 34 = .ok (.iinc 2 1, 3) := by decide +kernel
theorem dX7_removeAt_37 : decode cX7_removeAt 37 = .ok (.goto (-25), 3) := by decide +kernel
theorem dX7_removeAt_40 : decode cX7_removeAt 40 = .ok (.aload_n 0, 1) := by decide +kernel
theorem dX7_removeAt_41 : decode cX7_removeAt 41 = .ok (.dup, 1) := by decide +kernel
theorem dX7_removeAt_42 : decode cX7_removeAt 42 = .ok (.getfield 26, 3) := by decide +kernel
theorem dX7_removeAt_45 : decode cX7_removeAt 45 = .ok (.iconst 1, 1) := by decide +kernel
theorem dX7_removeAt_46 : decode cX7_removeAt 46 = .ok (.isub, 1) := by decide +kernel
theorem dX7_removeAt_47 : decode cX7_removeAt 47 = .ok (.putfield 26, 3) := by decide +kernel
theorem dX7_removeAt_50 : decode cX7_removeAt 50 = .ok (.return_, 1) := by decide +kernel
set_option maxRecDepth 20000 in
theorem ggX7_edgesOf_X7_hasRound : GoodIn wsX7_edgesOf wsX7_hasRound := goodIn_r _ [6, 7, 8, 9, 10, 11] (by decide +kernel) (by decide +kernel)
set_option maxRecDepth 20000 in
theorem gX7_edgesOf_X7_hasRound : GoodIn wsX7_edgesOf (wsV RX7 29 RX7 yX7_hasRound wsX7_hasRound) := goodIn_app (goodIn_of _ (by decide +kernel)) ggX7_edgesOf_X7_hasRound
theorem dX7_edgesOf_0 : decode cX7_edgesOf 0 = .ok (.aload_n 0, 1) := by decide +kernel
theorem dX7_edgesOf_1 : decode cX7_edgesOf 1 = .ok (.iload_n 1, 1) := by decide +kernel
theorem dX7_edgesOf_2 : decode cX7_edgesOf 2 = .ok (.invokevirtual 29, 3) := by decide +kernel
theorem dX7_edgesOf_5 : decode cX7_edgesOf 5 = .ok (.ifCond .eq 12, 3) := by decide +kernel
theorem dX7_edgesOf_8 : decode cX7_edgesOf 8 = .ok (.aload_n 0, 1) := by decide +kernel
theorem dX7_edgesOf_9 : decode cX7_edgesOf 9 = .ok (.getfield 9, 3) := by decide +kernel
theorem dX7_edgesOf_12 : decode cX7_edgesOf 12 = .ok (.iload_n 1, 1) := by decide +kernel
theorem dX7_edgesOf_13 : decode cX7_edgesOf 13 = .ok (.iaload, 1) := by decide +kernel
theorem dX7_edgesOf_14 : decode cX7_edgesOf 14 = .ok (.goto 4, 3) := by decide +kernel
theorem dX7_edgesOf_17 : decode cX7_edgesOf 17 = .ok (.iconst 0, 1) := by decide +kernel
theorem dX7_edgesOf_18 : decode cX7_edgesOf 18 = .ok (.ireturn, 1) := by decide +kernel
theorem dX7_edgesAtStep_0 : decode cX7_edgesAtStep 0 = .ok (.aload_n 0, 1) := by decide +kernel
theorem dX7_edgesAtStep_1 : decode cX7_edgesAtStep 1 = .ok (.getfield 26, 3) := by decide +kernel
theorem dX7_edgesAtStep_4 : decode cX7_edgesAtStep 4 = .ok (.ifCond .le 21, 3) := by decide +kernel
theorem dX7_edgesAtStep_7 : decode cX7_edgesAtStep 7 = .ok (.iload_n 1, 1) := by decide +kernel
theorem dX7_edgesAtStep_8 : decode cX7_edgesAtStep 8 = .ok (.ifCond .lt 17, 3) := by decide +kernel
theorem dX7_edgesAtStep_11 : decode cX7_edgesAtStep 11 = .ok (.aload_n 0, 1) := by decide +kernel
theorem dX7_edgesAtStep_12 : decode cX7_edgesAtStep 12 = .ok (.getfield 9, 3) := by decide +kernel
theorem dX7_edgesAtStep_15 : decode cX7_edgesAtStep 15 = .ok (.iload_n 1, 1) := by decide +kernel
theorem dX7_edgesAtStep_16 : decode cX7_edgesAtStep 16 = .ok (.aload_n 0, 1) := by decide +kernel
theorem dX7_edgesAtStep_17 : decode cX7_edgesAtStep 17 = .ok (.getfield 26, 3) := by decide +kernel
theorem dX7_edgesAtStep_20 : decode cX7_edgesAtStep 20 = .ok (.irem, 1) := by decide +kernel
theorem dX7_edgesAtStep_21 : decode cX7_edgesAtStep 21 = .ok (.iaload, 1) := by decide +kernel
theorem dX7_edgesAtStep_22 : decode cX7_edgesAtStep 22 = .ok (.goto 4, 3) := by decide +kernel
theorem dX7_edgesAtStep_25 : decode cX7_edgesAtStep 25 = .ok (.iconst 0, 1) := by decide +kernel
theorem dX7_edgesAtStep_26 : decode cX7_edgesAtStep 26 = .ok (.ireturn, 1) := by decide +kernel
theorem dX7_longestFlooding_0 : decode cX7_longestFlooding 0 = .ok (.aload_n 0, 1) := by decide +kernel
theorem dX7_longestFlooding_1 : decode cX7_longestFlooding 1 = .ok (.getfield 22, 3) := by decide +kernel
theorem dX7_longestFlooding_4 : decode cX7_longestFlooding 4 = .ok (.aload_n 0, 1) := by decide +kernel
theorem dX7_longestFlooding_5 : decode cX7_longestFlooding 5 = .ok (.getfield 26, 3) := by decide +kernel
theorem dX7_longestFlooding_8 : decode cX7_longestFlooding 8 = .ok (.imul, 1) := by decide +kernel
theorem dX7_longestFlooding_9 : decode cX7_longestFlooding 9 = .ok (.ireturn, 1) := by decide +kernel
set_option maxRecDepth 20000 in
theorem ggX7_valueOf_X7_hasNode : GoodIn wsX7_valueOf wsX7_hasNode := goodIn_r _ [6, 7, 8, 9, 10, 11] (by decide +kernel) (by decide +kernel)
set_option maxRecDepth 20000 in
theorem gX7_valueOf_X7_hasNode : GoodIn wsX7_valueOf (wsV RX7 33 RX7 yX7_hasNode wsX7_hasNode) := goodIn_app (goodIn_of _ (by decide +kernel)) ggX7_valueOf_X7_hasNode
theorem dX7_valueOf_0 : decode cX7_valueOf 0 = .ok (.aload_n 0, 1) := by decide +kernel
theorem dX7_valueOf_1 : decode cX7_valueOf 1 = .ok (.iload_n 1, 1) := by decide +kernel
theorem dX7_valueOf_2 : decode cX7_valueOf 2 = .ok (.invokevirtual 33, 3) := by decide +kernel
theorem dX7_valueOf_5 : decode cX7_valueOf 5 = .ok (.ifCond .eq 12, 3) := by decide +kernel
theorem dX7_valueOf_8 : decode cX7_valueOf 8 = .ok (.aload_n 0, 1) := by decide +kernel
theorem dX7_valueOf_9 : decode cX7_valueOf 9 = .ok (.getfield 15, 3) := by decide +kernel
theorem dX7_valueOf_12 : decode cX7_valueOf 12 = .ok (.iload_n 1, 1) := by decide +kernel
theorem dX7_valueOf_13 : decode cX7_valueOf 13 = .ok (.iaload, 1) := by decide +kernel
theorem dX7_valueOf_14 : decode cX7_valueOf 14 = .ok (.goto 4, 3) := by decide +kernel
theorem dX7_valueOf_17 : decode cX7_valueOf 17 = .ok (.iconst 0, 1) := by decide +kernel
theorem dX7_valueOf_18 : decode cX7_valueOf 18 = .ok (.ireturn, 1) := by decide +kernel
set_option maxRecDepth 20000 in
theorem ggX7_give_X7_hasNode : GoodIn wsX7_give wsX7_hasNode := goodIn_r _ [6, 7, 8, 9, 10, 11] (by decide +kernel) (by decide +kernel)
set_option maxRecDepth 20000 in
theorem gX7_give_X7_hasNode : GoodIn wsX7_give (wsV RX7 33 RX7 yX7_hasNode wsX7_hasNode) := goodIn_app (goodIn_of _ (by decide +kernel)) ggX7_give_X7_hasNode
theorem dX7_give_0 : decode cX7_give 0 = .ok (.aload_n 0, 1) := by decide +kernel
theorem dX7_give_1 : decode cX7_give 1 = .ok (.iload_n 1, 1) := by decide +kernel
theorem dX7_give_2 : decode cX7_give 2 = .ok (.invokevirtual 33, 3) := by decide +kernel
theorem dX7_give_5 : decode cX7_give 5 = .ok (.ifCond .eq 10, 3) := by decide +kernel
theorem dX7_give_8 : decode cX7_give 8 = .ok (.aload_n 0, 1) := by decide +kernel
theorem dX7_give_9 : decode cX7_give 9 = .ok (.getfield 15, 3) := by decide +kernel
theorem dX7_give_12 : decode cX7_give 12 = .ok (.iload_n 1, 1) := by decide +kernel
theorem dX7_give_13 : decode cX7_give 13 = .ok (.iload_n 2, 1) := by decide +kernel
theorem dX7_give_14 : decode cX7_give 14 = .ok (.iastore, 1) := by decide +kernel
theorem dX7_give_15 : decode cX7_give 15 = .ok (.return_, 1) := by decide +kernel
set_option maxRecDepth 20000 in
theorem ggX7_smallestValue_X6_has : GoodIn wsX7_smallestValue wsX6_has := goodIn_r _ [10] (by decide +kernel) (by decide +kernel)
set_option maxRecDepth 20000 in
theorem gX7_smallestValue_X6_has : GoodIn wsX7_smallestValue (va_wsS RX7 40 yX6_has wsX6_has) := goodIn_app (goodIn_of _ (by decide +kernel)) ggX7_smallestValue_X6_has
theorem dX7_smallestValue_0 : decode cX7_smallestValue 0 = .ok (.bipush 99, 2) := by decide +kernel
theorem dX7_smallestValue_2 : decode cX7_smallestValue 2 = .ok (.istore_n 2, 1) := by decide +kernel
theorem dX7_smallestValue_3 : decode cX7_smallestValue 3 = .ok (.iconst 0, 1) := by decide +kernel
theorem dX7_smallestValue_4 : decode cX7_smallestValue 4 = .ok (.istore_n 3, 1) := by decide +kernel
theorem dX7_smallestValue_5 : decode cX7_smallestValue 5 = .ok (.iload_n 3, 1) := by decide +kernel
theorem dX7_smallestValue_6 : decode cX7_smallestValue 6 = .ok (.aload_n 0, 1) := by decide +kernel
theorem dX7_smallestValue_7 : decode cX7_smallestValue 7 = .ok (.getfield 22, 3) := by decide +kernel
theorem dX7_smallestValue_10 : decode cX7_smallestValue 10 = .ok (.if_icmp .ge 28, 3) := by decide +kernel
theorem dX7_smallestValue_13 : decode cX7_smallestValue 13 = .ok (.iload_n 1, 1) := by decide +kernel
theorem dX7_smallestValue_14 : decode cX7_smallestValue 14 = .ok (.iload_n 3, 1) := by decide +kernel
theorem dX7_smallestValue_15 : decode cX7_smallestValue 15 = .ok (.invokestatic 40, 3) := by decide +kernel
theorem dX7_smallestValue_18 : decode cX7_smallestValue 18 = .ok (.ifCond .eq 14, 3) := by decide +kernel
theorem dX7_smallestValue_21 : decode cX7_smallestValue 21 = .ok (.iload_n 2, 1) := by decide +kernel
theorem dX7_smallestValue_22 : decode cX7_smallestValue 22 = .ok (.aload_n 0, 1) := by decide +kernel
theorem dX7_smallestValue_23 : decode cX7_smallestValue 23 = .ok (.getfield 15, 3) := by decide +kernel
theorem dX7_smallestValue_26 : decode cX7_smallestValue 26 = .ok (.iload_n 3, 1) := by decide +kernel
theorem dX7_smallestValue_27 : decode cX7_smallestValue 27 = .ok (.iaload, 1) := by decide +kernel
theorem dX7_smallestValue_28 : decode cX7_smallestValue 28 = .ok (.invokestatic 46, 3) := by decide +kernel
theorem dX7_smallestValue_31 : decode cX7_smallestValue 31 = .ok (.istore_n 2, 1) := by decide +kernel
theorem dX7_smallestValue_32 : decode cX7_smallestValue 32 = .ok (.iinc 3 1, 3) := by decide +kernel
theorem dX7_smallestValue_35 : decode cX7_smallestValue 35 = .ok (.goto (-30), 3) := by decide +kernel
theorem dX7_smallestValue_38 : decode cX7_smallestValue 38 = .ok (.iload_n 2, 1) := by decide +kernel
theorem dX7_smallestValue_39 : decode cX7_smallestValue 39 = .ok (.ireturn, 1) := by decide +kernel
set_option maxRecDepth 20000 in
theorem ggX7_edgesInAll_J6_bitCount_0f7a4 : GoodIn wsX7_edgesInAll wsJ6_bitCount_0f7a4 := goodIn_r _ [6, 7, 8, 9] (by decide +kernel) (by decide +kernel)
set_option maxRecDepth 20000 in
theorem gX7_edgesInAll_J6_bitCount_0f7a4 : GoodIn wsX7_edgesInAll (va_wsS RX7 52 yJ6_bitCount_0f7a4 wsJ6_bitCount_0f7a4) := goodIn_app (goodIn_of _ (by decide +kernel)) ggX7_edgesInAll_J6_bitCount_0f7a4
theorem dX7_edgesInAll_0 : decode cX7_edgesInAll 0 = .ok (.iconst 0, 1) := by decide +kernel
theorem dX7_edgesInAll_1 : decode cX7_edgesInAll 1 = .ok (.istore_n 1, 1) := by decide +kernel
theorem dX7_edgesInAll_2 : decode cX7_edgesInAll 2 = .ok (.iconst 0, 1) := by decide +kernel
theorem dX7_edgesInAll_3 : decode cX7_edgesInAll 3 = .ok (.istore_n 2, 1) := by decide +kernel
theorem dX7_edgesInAll_4 : decode cX7_edgesInAll 4 = .ok (.iload_n 2, 1) := by decide +kernel
theorem dX7_edgesInAll_5 : decode cX7_edgesInAll 5 = .ok (.aload_n 0, 1) := by decide +kernel
theorem dX7_edgesInAll_6 : decode cX7_edgesInAll 6 = .ok (.getfield 26, 3) := by decide +kernel
theorem dX7_edgesInAll_9 : decode cX7_edgesInAll 9 = .ok (.if_icmp .ge 21, 3) := by decide +kernel
theorem dX7_edgesInAll_12 : decode cX7_edgesInAll 12 = .ok (.iload_n 1, 1) := by decide +kernel
theorem dX7_edgesInAll_13 : decode cX7_edgesInAll 13 = .ok (.aload_n 0, 1) := by decide +kernel
theorem dX7_edgesInAll_14 : decode cX7_edgesInAll 14 = .ok (.getfield 9, 3) := by decide +kernel
theorem dX7_edgesInAll_17 : decode cX7_edgesInAll 17 = .ok (.iload_n 2, 1) := by decide +kernel
theorem dX7_edgesInAll_18 : decode cX7_edgesInAll 18 = .ok (.iaload, 1) := by decide +kernel
theorem dX7_edgesInAll_19 : decode cX7_edgesInAll 19 = .ok (.invokestatic 52, 3) := by decide +kernel
theorem dX7_edgesInAll_22 : decode cX7_edgesInAll 22 = .ok (.iadd, 1) := by decide +kernel
theorem dX7_edgesInAll_23 : decode cX7_edgesInAll 23 = .ok (.istore_n 1, 1) := by decide +kernel
theorem dX7_edgesInAll_24 : decode cX7_edgesInAll 24 = .ok (.iinc 2 1, 3) := by decide +kernel
theorem dX7_edgesInAll_27 : decode cX7_edgesInAll 27 = .ok (.goto (-23), 3) := by decide +kernel
theorem dX7_edgesInAll_30 : decode cX7_edgesInAll 30 = .ok (.iload_n 1, 1) := by decide +kernel
theorem dX7_edgesInAll_31 : decode cX7_edgesInAll 31 = .ok (.ireturn, 1) := by decide +kernel
set_option maxRecDepth 20000 in
theorem ggX7_connectedRounds_X2_areConnected : GoodIn wsX7_connectedRounds wsX2_areConnected := goodIn_r _ [7, 8, 9, 6, 10, 11, 12, 13, 14, 15, 16, 17, 18, 19, 20, 21, 22, 23, 24, 25, 26, 27, 28, 29] (by decide +kernel) (by decide +kernel)
set_option maxRecDepth 20000 in
theorem gX7_connectedRounds_X2_areConnected : GoodIn wsX7_connectedRounds (va_wsS RX7 58 yX2_areConnected wsX2_areConnected) := goodIn_app (goodIn_of _ (by decide +kernel)) ggX7_connectedRounds_X2_areConnected
theorem dX7_connectedRounds_0 : decode cX7_connectedRounds 0 = .ok (.iconst 0, 1) := by decide +kernel
theorem dX7_connectedRounds_1 : decode cX7_connectedRounds 1 = .ok (.istore_n 1, 1) := by decide +kernel
theorem dX7_connectedRounds_2 : decode cX7_connectedRounds 2 = .ok (.iconst 0, 1) := by decide +kernel
theorem dX7_connectedRounds_3 : decode cX7_connectedRounds 3 = .ok (.istore_n 2, 1) := by decide +kernel
theorem dX7_connectedRounds_4 : decode cX7_connectedRounds 4 = .ok (.iload_n 2, 1) := by decide +kernel
theorem dX7_connectedRounds_5 : decode cX7_connectedRounds 5 = .ok (.aload_n 0, 1) := by decide +kernel
theorem dX7_connectedRounds_6 : decode cX7_connectedRounds 6 = .ok (.getfield 26, 3) := by decide +kernel
theorem dX7_connectedRounds_9 : decode cX7_connectedRounds 9 = .ok (.if_icmp .ge 28, 3) := by decide +kernel
theorem dX7_connectedRounds_12 : decode cX7_connectedRounds 12 = .ok (.aload_n 0, 1) := by decide +kernel
theorem dX7_connectedRounds_13 : decode cX7_connectedRounds 13 = .ok (.getfield 9, 3) := by decide +kernel
theorem dX7_connectedRounds_16 : decode cX7_connectedRounds 16 = .ok (.iload_n 2, 1) := by decide +kernel
theorem dX7_connectedRounds_17 : decode cX7_connectedRounds 17 = .ok (.iaload, 1) := by decide +kernel
theorem dX7_connectedRounds_18 : decode cX7_connectedRounds 18 = .ok (.aload_n 0, 1) := by decide +kernel
theorem dX7_connectedRounds_19 : decode cX7_connectedRounds 19 = .ok (.getfield 22, 3) := by decide +kernel
theorem dX7_connectedRounds_22 : decode cX7_connectedRounds 22 = .ok (.invokestatic 58, 3) := by decide +kernel
theorem dX7_connectedRounds_25 : decode cX7_connectedRounds 25 = .ok (.ifCond .eq 6, 3) := by decide +kernel
theorem dX7_connectedRounds_28 : decode cX7_connectedRounds 28 = .ok (.iinc 1 1, 3) := by decide +kernel
theorem dX7_connectedRounds_31 : decode cX7_connectedRounds 31 = .ok (.iinc 2 1, 3) := by decide +kernel
theorem dX7_connectedRounds_34 : decode cX7_connectedRounds 34 = .ok (.goto (-30), 3) := by decide +kernel
theorem dX7_connectedRounds_37 : decode cX7_connectedRounds 37 = .ok (.iload_n 1, 1) := by decide +kernel
theorem dX7_connectedRounds_38 : decode cX7_connectedRounds 38 = .ok (.ireturn, 1) := by decide +kernel
set_option maxRecDepth 20000 in
theorem ggX7_edgesThatStay_X7_edgesOf : GoodIn wsX7_edgesThatStay wsX7_edgesOf := goodIn_r _ [5, 6, 7, 8, 9, 4, 10, 11, 12, 13, 14, 15] (by decide +kernel) (by decide +kernel)
set_option maxRecDepth 20000 in
theorem gX7_edgesThatStay_X7_edgesOf : GoodIn wsX7_edgesThatStay (wsV RX7 63 RX7 yX7_edgesOf wsX7_edgesOf) := goodIn_app (goodIn_of _ (by decide +kernel)) ggX7_edgesThatStay_X7_edgesOf
theorem dX7_edgesThatStay_0 : decode cX7_edgesThatStay 0 = .ok (.aload_n 0, 1) := by decide +kernel
theorem dX7_edgesThatStay_1 : decode cX7_edgesThatStay 1 = .ok (.iload_n 1, 1) := by decide +kernel
theorem dX7_edgesThatStay_2 : decode cX7_edgesThatStay 2 = .ok (.invokevirtual 63, 3) := by decide +kernel
theorem dX7_edgesThatStay_5 : decode cX7_edgesThatStay 5 = .ok (.istore_n 3, 1) := by decide +kernel
theorem dX7_edgesThatStay_6 : decode cX7_edgesThatStay 6 = .ok (.iconst 1, 1) := by decide +kernel
theorem dX7_edgesThatStay_7 : decode cX7_edgesThatStay 7 = .ok (.istore 4, 2) := by decide +kernel
theorem dX7_edgesThatStay_9 : decode cX7_edgesThatStay 9 = .ok (.iload 4, 2) := by decide +kernel
theorem dX7_edgesThatStay_11 : decode cX7_edgesThatStay 11 = .ok (.iload_n 2, 1) := by decide +kernel
theorem dX7_edgesThatStay_12 : decode cX7_edgesThatStay 12 = .ok (.if_icmp .ge 20, 3) := by decide +kernel
theorem dX7_edgesThatStay_15 : decode cX7_edgesThatStay 15 = .ok (.iload_n 3, 1) := by decide +kernel
theorem dX7_edgesThatStay_16 : decode cX7_edgesThatStay 16 = .ok (.aload_n 0, 1) := by decide +kernel
theorem dX7_edgesThatStay_17 : decode cX7_edgesThatStay 17 = .ok (.iload_n 1, 1) := by decide +kernel
theorem dX7_edgesThatStay_18 : decode cX7_edgesThatStay 18 = .ok (.iload 4, 2) := by decide +kernel
theorem dX7_edgesThatStay_20 : decode cX7_edgesThatStay 20 = .ok (.iadd, 1) := by decide +kernel
theorem dX7_edgesThatStay_21 : decode cX7_edgesThatStay 21 = .ok (.invokevirtual 63, 3) := by decide +kernel
theorem dX7_edgesThatStay_24 : decode cX7_edgesThatStay 24 = .ok (.iand, 1) := by decide +kernel
theorem dX7_edgesThatStay_25 : decode cX7_edgesThatStay 25 = .ok (.istore_n 3, 1) := by decide +kernel
theorem dX7_edgesThatStay_26 : decode cX7_edgesThatStay 26 = .ok (.iinc 4 1, 3) := by decide +kernel
theorem dX7_edgesThatStay_29 : decode cX7_edgesThatStay 29 = .ok (.goto (-20), 3) := by decide +kernel
theorem dX7_edgesThatStay_32 : decode cX7_edgesThatStay 32 = .ok (.iload_n 3, 1) := by decide +kernel
theorem dX7_edgesThatStay_33 : decode cX7_edgesThatStay 33 = .ok (.ireturn, 1) := by decide +kernel
set_option maxRecDepth 20000 in
theorem ggX7_staysConnected_X7_edgesThatStay : GoodIn wsX7_staysConnected wsX7_edgesThatStay := goodIn_r _ [7, 8, 9, 10, 6, 11, 12, 13, 14, 15, 16, 1, 43, 44, 45, 46] (by decide +kernel) (by decide +kernel)
set_option maxRecDepth 20000 in
theorem gX7_staysConnected_X7_edgesThatStay : GoodIn wsX7_staysConnected (wsV RX7 66 RX7 yX7_edgesThatStay wsX7_edgesThatStay) := goodIn_app (goodIn_of _ (by decide +kernel)) ggX7_staysConnected_X7_edgesThatStay
set_option maxRecDepth 20000 in
theorem ggX7_staysConnected_X2_areConnected : GoodIn wsX7_staysConnected wsX2_areConnected := goodIn_r _ [20, 21, 22, 19, 23, 24, 25, 26, 27, 28, 29, 30, 31, 32, 33, 34, 35, 36, 37, 38, 39, 40, 41, 42] (by decide +kernel) (by decide +kernel)
set_option maxRecDepth 20000 in
theorem gX7_staysConnected_X2_areConnected : GoodIn wsX7_staysConnected (va_wsS RX7 58 yX2_areConnected wsX2_areConnected) := goodIn_app (goodIn_of _ (by decide +kernel)) ggX7_staysConnected_X2_areConnected
theorem dX7_staysConnected_0 : decode cX7_staysConnected 0 = .ok (.iconst 0, 1) := by decide +kernel
theorem dX7_staysConnected_1 : decode cX7_staysConnected 1 = .ok (.istore_n 2, 1) := by decide +kernel
theorem dX7_staysConnected_2 : decode cX7_staysConnected 2 = .ok (.iload_n 2, 1) := by decide +kernel
theorem dX7_staysConnected_3 : decode cX7_staysConnected 3 = .ok (.iload_n 1, 1) := by decide +kernel
theorem dX7_staysConnected_4 : decode cX7_staysConnected 4 = .ok (.iadd, 1) := by decide +kernel
theorem dX7_staysConnected_5 : decode cX7_staysConnected 5 = .ok (.aload_n 0, 1) := by decide +kernel
theorem dX7_staysConnected_6 : decode cX7_staysConnected 6 = .ok (.getfield 26, 3) := by decide +kernel
theorem dX7_staysConnected_9 : decode cX7_staysConnected 9 = .ok (.if_icmp .gt 27, 3) := by decide +kernel
theorem dX7_staysConnected_12 : decode cX7_staysConnected 12 = .ok (.aload_n 0, 1) := by decide +kernel
theorem dX7_staysConnected_13 : decode cX7_staysConnected 13 = .ok (.iload_n 2, 1) := by decide +kernel
theorem dX7_staysConnected_14 : decode cX7_staysConnected 14 = .ok (.iload_n 1, 1) := by decide +kernel
theorem dX7_staysConnected_15 : decode cX7_staysConnected 15 = .ok (.invokevirtual 66, 3) := by decide +kernel
theorem dX7_staysConnected_18 : decode cX7_staysConnected 18 = .ok (.aload_n 0, 1) := by decide +kernel
theorem dX7_staysConnected_19 : decode cX7_staysConnected 19 = .ok (.getfield 22, 3) := by decide +kernel
theorem dX7_staysConnected_22 : decode cX7_staysConnected 22 = .ok (.invokestatic 58, 3) := by decide +kernel
theorem dX7_staysConnected_25 : decode cX7_staysConnected 25 = .ok (.ifCond .ne 5, 3) := by decide +kernel
theorem dX7_staysConnected_28 : decode cX7_staysConnected 28 = .ok (.iconst 0, 1) := by decide +kernel
theorem dX7_staysConnected_29 : decode cX7_staysConnected 29 = .ok (.ireturn, 1) := by decide +kernel
theorem dX7_staysConnected_30 : decode cX7_staysConnected 30 = .ok (.iinc 2 1, 3) := by decide +kernel
theorem dX7_staysConnected_33 : decode cX7_staysConnected 33 = .ok (.goto (-31), 3) := by decide +kernel
theorem dX7_staysConnected_36 : decode cX7_staysConnected 36 = .ok (.iconst 1, 1) := by decide +kernel
theorem dX7_staysConnected_37 : decode cX7_staysConnected 37 = .ok (.ireturn, 1) := by decide +kernel
set_option maxRecDepth 20000 in
theorem ggX7_longestWindow_X7_edgesThatStay : GoodIn wsX7_longestWindow wsX7_edgesThatStay := goodIn_r _ [7, 8, 9, 10, 6, 11, 12, 13, 14, 15, 16, 1, 43, 44, 45, 46] (by decide +kernel) (by decide +kernel)
set_option maxRecDepth 20000 in
theorem gX7_longestWindow_X7_edgesThatStay : GoodIn wsX7_longestWindow (wsV RX7 66 RX7 yX7_edgesThatStay wsX7_edgesThatStay) := goodIn_app (goodIn_of _ (by decide +kernel)) ggX7_longestWindow_X7_edgesThatStay
set_option maxRecDepth 20000 in
theorem ggX7_longestWindow_X2_areConnected : GoodIn wsX7_longestWindow wsX2_areConnected := goodIn_r _ [20, 21, 22, 19, 23, 24, 25, 26, 27, 28, 29, 30, 31, 32, 33, 34, 35, 36, 37, 38, 39, 40, 41, 42] (by decide +kernel) (by decide +kernel)
set_option maxRecDepth 20000 in
theorem gX7_longestWindow_X2_areConnected : GoodIn wsX7_longestWindow (va_wsS RX7 58 yX2_areConnected wsX2_areConnected) := goodIn_app (goodIn_of _ (by decide +kernel)) ggX7_longestWindow_X2_areConnected
theorem dX7_longestWindow_0 : decode cX7_longestWindow 0 = .ok (.iconst 0, 1) := by decide +kernel
theorem dX7_longestWindow_1 : decode cX7_longestWindow 1 = .ok (.istore_n 2, 1) := by decide +kernel
theorem dX7_longestWindow_2 : decode cX7_longestWindow 2 = .ok (.iload_n 1, 1) := by decide +kernel
theorem dX7_longestWindow_3 : decode cX7_longestWindow 3 = .ok (.iload_n 2, 1) := by decide +kernel
theorem dX7_longestWindow_4 : decode cX7_longestWindow 4 = .ok (.iadd, 1) := by decide +kernel
theorem dX7_longestWindow_5 : decode cX7_longestWindow 5 = .ok (.aload_n 0, 1) := by decide +kernel
theorem dX7_longestWindow_6 : decode cX7_longestWindow 6 = .ok (.getfield 26, 3) := by decide +kernel
theorem dX7_longestWindow_9 : decode cX7_longestWindow 9 = .ok (.if_icmp .ge 27, 3) := by decide +kernel
theorem dX7_longestWindow_12 : decode cX7_longestWindow 12 = .ok (.aload_n 0, 1) := by decide +kernel
theorem dX7_longestWindow_13 : decode cX7_longestWindow 13 = .ok (.iload_n 1, 1) := by decide +kernel
theorem dX7_longestWindow_14 : decode cX7_longestWindow 14 = .ok (.iload_n 2, 1) := by decide +kernel
theorem dX7_longestWindow_15 : decode cX7_longestWindow 15 = .ok (.iconst 1, 1) := by decide +kernel
theorem dX7_longestWindow_16 : decode cX7_longestWindow 16 = .ok (.iadd, 1) := by decide +kernel
theorem dX7_longestWindow_17 : decode cX7_longestWindow 17 = .ok (.invokevirtual 66, 3) := by decide +kernel
theorem dX7_longestWindow_20 : decode cX7_longestWindow 20 = .ok (.aload_n 0, 1) := by decide +kernel
theorem dX7_longestWindow_21 : decode cX7_longestWindow 21 = .ok (.getfield 22, 3) := by decide +kernel
theorem dX7_longestWindow_24 : decode cX7_longestWindow 24 = .ok (.invokestatic 58, 3) := by decide +kernel
theorem dX7_longestWindow_27 : decode cX7_longestWindow 27 = .ok (.ifCond .eq 9, 3) := by decide +kernel
theorem dX7_longestWindow_30 : decode cX7_longestWindow 30 = .ok (.iinc 2 1, 3) := by decide +kernel
theorem dX7_longestWindow_33 : decode cX7_longestWindow 33 = .ok (.goto (-31), 3) := by decide +kernel
theorem dX7_longestWindow_36 : decode cX7_longestWindow 36 = .ok (.iload_n 2, 1) := by decide +kernel
theorem dX7_longestWindow_37 : decode cX7_longestWindow 37 = .ok (.ireturn, 1) := by decide +kernel
theorem dX8_init_0 : decode cX8_init 0 = .ok (.aload_n 0, 1) := by decide +kernel
theorem dX8_init_1 : decode cX8_init 1 = .ok (.invokespecial 3, 3) := by decide +kernel
theorem dX8_init_4 : decode cX8_init 4 = .ok (.aload_n 0, 1) := by decide +kernel
theorem dX8_init_5 : decode cX8_init 5 = .ok (.bipush 120, 2) := by decide +kernel
theorem dX8_init_7 : decode cX8_init 7 = .ok (.newarray .char, 2) := by decide +kernel
theorem dX8_init_9 : decode cX8_init 9 = .ok (.putfield 9, 3) := by decide +kernel
theorem dX8_init_12 : decode cX8_init 12 = .ok (.return_, 1) := by decide +kernel
theorem dX8_length_0 : decode cX8_length 0 = .ok (.aload_n 0, 1) := by decide +kernel
theorem dX8_length_1 : decode cX8_length 1 = .ok (.getfield 15, 3) := by decide +kernel
theorem dX8_length_4 : decode cX8_length 4 = .ok (.ireturn, 1) := by decide +kernel
theorem dX8_isFull_0 : decode cX8_isFull 0 = .ok (.aload_n 0, 1) := by decide +kernel
theorem dX8_isFull_1 : decode cX8_isFull 1 = .ok (.getfield 15, 3) := by decide +kernel
theorem dX8_isFull_4 : decode cX8_isFull 4 = .ok (.bipush 120, 2) := by decide +kernel
theorem dX8_isFull_6 : decode cX8_isFull 6 = .ok (.if_icmp .lt 7, 3) := by decide +kernel
theorem dX8_isFull_9 : decode cX8_isFull 9 = .ok (.iconst 1, 1) := by decide +kernel
theorem dX8_isFull_10 : decode cX8_isFull 10 = .ok (.goto 4, 3) := by decide +kernel
theorem dX8_isFull_13 : decode cX8_isFull 13 = .ok (.iconst 0, 1) := by decide +kernel
theorem dX8_isFull_14 : decode cX8_isFull 14 = .ok (.ireturn, 1) := by decide +kernel
set_option maxRecDepth 20000 in
theorem ggX8_append_X8_isFull : GoodIn wsX8_append wsX8_isFull := goodIn_r _ [7, 2, 8, 9, 10, 11, 12] (by decide +kernel) (by decide +kernel)
set_option maxRecDepth 20000 in
theorem gX8_append_X8_isFull : GoodIn wsX8_append (wsV RX8 19 RX8 yX8_isFull wsX8_isFull) := goodIn_app (goodIn_of _ (by decide +kernel)) ggX8_append_X8_isFull
theorem dX8_append_0 : decode cX8_append 0 = .ok (.aload_n 0, 1) := by decide +kernel
theorem dX8_append_1 : decode cX8_append 1 = .ok (.invokevirtual 19, 3) := by decide +kernel
theorem dX8_append_4 : decode cX8_append 4 = .ok (.ifCond .ne 24, 3) := by decide +kernel
theorem dX8_append_7 : decode cX8_append 7 = .ok (.aload_n 0, 1) := by decide +kernel
theorem dX8_append_8 : decode cX8_append 8 = .ok (.getfield 9, 3) := by decide +kernel
theorem dX8_append_11 : decode cX8_append 11 = .ok (.aload_n 0, 1) := by decide +kernel
theorem dX8_append_12 : decode cX8_append 12 = .ok (.getfield 15, 3) := by decide +kernel
theorem dX8_append_15 : decode cX8_append 15 = .ok (.iload_n 1, 1) := by decide +kernel
theorem dX8_append_16 : decode cX8_append 16 = .ok (.i2c, 1) := by decide +kernel
theorem dX8_append_17 : decode cX8_append 17 = .ok (.castore, 1) := by decide +kernel
theorem dX8_append_18 : decode cX8_append 18 = .ok (.aload_n 0, 1) := by decide +kernel
theorem dX8_append_19 : decode cX8_append 19 = .ok (.dup, 1) := by decide +kernel
theorem dX8_append_20 : decode cX8_append 20 = .ok (.getfield 15, 3) := by decide +kernel
theorem dX8_append_23 : decode cX8_append 23 = .ok (.iconst 1, 1) := by decide +kernel
theorem dX8_append_24 : decode cX8_append 24 = .ok (.iadd, 1) := by decide +kernel
theorem dX8_append_25 : decode cX8_append 25 = .ok (.putfield 15, 3) := by decide +kernel
theorem dX8_append_28 : decode cX8_append 28 = .ok (.return_, 1) := by decide +kernel
theorem dX8_clear_0 : decode cX8_clear 0 = .ok (.aload_n 0, 1) := by decide +kernel
theorem dX8_clear_1 : decode cX8_clear 1 = .ok (.iconst 0, 1) := by decide +kernel
theorem dX8_clear_2 : decode cX8_clear 2 = .ok (.putfield 15, 3) := by decide +kernel
theorem dX8_clear_5 : decode cX8_clear 5 = .ok (.return_, 1) := by decide +kernel
set_option maxRecDepth 20000 in
theorem ggX8_readInto_X7_beginAnew : GoodIn wsX8_readInto wsX7_beginAnew := goodIn_r _ [8, 9, 10, 11, 176, 177, 178, 179] (by decide +kernel) (by decide +kernel)
set_option maxRecDepth 20000 in
theorem gX8_readInto_X7_beginAnew : GoodIn wsX8_readInto (wsV RX8 23 RX7 yX7_beginAnew wsX7_beginAnew) := goodIn_app (goodIn_of _ (by decide +kernel)) ggX8_readInto_X7_beginAnew
set_option maxRecDepth 20000 in
theorem ggX8_readInto_X8_nextToken : GoodIn wsX8_readInto wsX8_nextToken := goodIn_r _ [16, 1, 3, 17, 2, 18, 19, 20, 15, 21, 22, 23, 24, 25, 26, 171, 172, 173, 174, 175] (by decide +kernel) (by decide +kernel)
set_option maxRecDepth 20000 in
theorem gX8_readInto_X8_nextToken : GoodIn wsX8_readInto (wsV RX8 32 RX8 yX8_nextToken wsX8_nextToken) := goodIn_app (goodIn_of _ (by decide +kernel)) ggX8_readInto_X8_nextToken
set_option maxRecDepth 20000 in
theorem ggX8_readInto_X8_readItem : GoodIn wsX8_readInto wsX8_readItem := goodIn_r _ [30, 2, 31, 32, 33, 15, 34, 3, 35, 36, 37, 7, 38, 10, 39, 40, 41, 42, 1, 43, 44, 45, 46, 18, 19, 20, 21, 17, 22, 47, 48, 49, 50, 9, 51, 52, 53, 54, 12, 13, 14, 16, 23, 24, 25, 26, 55, 56, 57, 58, 59, 60, 61, 62, 63, 64, 65, 66, 67, 68, 69, 70, 71, 72, 73, 74, 75, 76, 77, 78, 79, 80, 81, 82, 83, 84, 85, 86, 87, 88, 89, 90, 91, 92, 93, 94, 95, 96, 97, 98, 99, 100, 101, 102, 103, 104, 105, 106, 107, 108, 109, 110, 111, 112, 113, 114, 115, 116, 117, 118, 119, 120, 121, 4, 5, 6, 8, 11, 122, 123, 124, 125, 126, 127, 128, 129, 130, 131, 132, 133, 134, 135, 136, 137, 138, 139, 140, 141, 142, 143, 144, 145, 146, 147, 148, 149, 150, 151, 152, 153, 154, 155, 156, 157, 158, 159, 160, 161, 162, 163, 164, 165, 166, 167, 168, 169, 170, 171, 172, 173, 174, 175, 176, 177, 178, 179] (by decide +kernel) (by decide +kernel)
set_option maxRecDepth 20000 in
theorem gX8_readInto_X8_readItem : GoodIn wsX8_readInto (wsV RX8 38 RX8 yX8_readItem wsX8_readItem) := goodIn_app (goodIn_of _ (by decide +kernel)) ggX8_readInto_X8_readItem
theorem dX8_readInto_0 : decode cX8_readInto 0 = .ok (.aload_n 1, 1) := by decide +kernel
theorem dX8_readInto_1 : decode cX8_readInto 1 = .ok (.iconst 4, 1) := by decide +kernel
theorem dX8_readInto_2 : decode cX8_readInto 2 = .ok (.invokevirtual 23, 3) := by decide +kernel
theorem dX8_readInto_5 : decode cX8_readInto 5 = .ok (.aload_n 0, 1) := by decide +kernel
theorem dX8_readInto_6 : decode cX8_readInto 6 = .ok (.iconst 0, 1) := by decide +kernel
theorem dX8_readInto_7 : decode cX8_readInto 7 = .ok (.putfield 29, 3) := by decide +kernel
theorem dX8_readInto_10 : decode cX8_readInto 10 = .ok (.aload_n 0, 1) := by decide +kernel
theorem dX8_readInto_11 : decode cX8_readInto 11 = .ok (.invokevirtual 32, 3) := by decide +kernel
theorem dX8_readInto_14 : decode cX8_readInto 14 = .ok (.iconst 0, 1) := by decide +kernel
theorem dX8_readInto_15 : decode cX8_readInto 15 = .ok (.istore_n 2, 1) := by decide +kernel
theorem dX8_readInto_16 : decode cX8_readInto 16 = .ok (.iload_n 2, 1) := by decide +kernel
theorem dX8_readInto_17 : decode cX8_readInto 17 = .ok (.bipush 120, 2) := by decide +kernel
theorem dX8_readInto_19 : decode cX8_readInto 19 = .ok (.if_icmp .ge 50, 3) := by decide +kernel
theorem dX8_readInto_22 : decode cX8_readInto 22 = .ok (.aload_n 0, 1) := by decide +kernel
theorem dX8_readInto_23 : decode cX8_readInto 23 = .ok (.getfield 35, 3) := by decide +kernel
theorem dX8_readInto_26 : decode cX8_readInto 26 = .ok (.ifCond .eq 43, 3) := by decide +kernel
theorem dX8_readInto_29 : decode cX8_readInto 29 = .ok (.aload_n 0, 1) := by decide +kernel
theorem dX8_readInto_30 : decode cX8_readInto 30 = .ok (.aload_n 1, 1) := by decide +kernel
theorem dX8_readInto_31 : decode cX8_readInto 31 = .ok (.iload_n 2, 1) := by decide +kernel
theorem dX8_readInto_32 : decode cX8_readInto 32 = .ok (.ifCond .ne 7, 3) := by decide +kernel
theorem dX8_readInto_35 : decode cX8_readInto 35 = .ok (.iconst 1, 1) := by decide +kernel
theorem dX8_readInto_36 : decode cX8_readInto 36 = .ok (.goto 4, 3) := by decide +kernel
theorem dX8_readInto_39 : decode cX8_readInto 39 = .ok (.iconst 0, 1) := by decide +kernel
theorem dX8_readInto_40 : decode cX8_readInto 40 = .ok (.invokevirtual 38, 3) := by decide +kernel
theorem dX8_readInto_43 : decode cX8_readInto 43 = .ok (.ifCond .eq 11, 3) := by decide +kernel
theorem dX8_readInto_46 : decode cX8_readInto 46 = .ok (.aload_n 0, 1) := by decide +kernel
theorem dX8_readInto_47 : decode cX8_readInto 47 = .ok (.getfield 35, 3) := by decide +kernel
theorem dX8_readInto_50 : decode cX8_readInto 50 = .ok (.iconst 3, 1) := by decide +kernel
theorem dX8_readInto_51 : decode cX8_readInto 51 = .ok (.if_icmp .eq 8, 3) := by decide +kernel
theorem dX8_readInto_54 : decode cX8_readInto 54 = .ok (.aload_n 0, 1) := by decide +kernel
theorem dX8_readInto_55 : decode cX8_readInto 55 = .ok (.getfield 42, 3) := by decide +kernel
theorem dX8_readInto_58 : decode cX8_readInto 58 = .ok (.ireturn, 1) := by decide +kernel
theorem dX8_readInto_59 : decode cX8_readInto 59 = .ok (.aload_n 0, 1) := by decide +kernel
theorem dX8_readInto_60 : decode cX8_readInto 60 = .ok (.invokevirtual 32, 3) := by decide +kernel
theorem dX8_readInto_63 : decode cX8_readInto 63 = .ok (.iinc 2 1, 3) := by decide +kernel
theorem dX8_readInto_66 : decode cX8_readInto 66 = .ok (.goto (-50), 3) := by decide +kernel
theorem dX8_readInto_69 : decode cX8_readInto 69 = .ok (.iconst (-1), 1) := by decide +kernel
theorem dX8_readInto_70 : decode cX8_readInto 70 = .ok (.ireturn, 1) := by decide +kernel
set_option maxRecDepth 20000 in
theorem ggX8_readItem_X8_readEdges : GoodIn wsX8_readItem wsX8_readEdges := goodIn_r _ [6, 1, 7, 8, 9, 10, 11, 12, 13, 14, 15, 16, 5, 17, 18, 19, 20, 21, 22, 23, 24, 25, 26, 27, 28, 29, 30, 31, 32, 33, 34, 35, 36, 37, 38, 39, 40, 41, 42, 43, 44, 45, 46, 47, 48, 49, 50, 51, 167, 168, 169, 170, 171, 172, 173, 174, 175] (by decide +kernel) (by decide +kernel)
set_option maxRecDepth 20000 in
theorem gX8_readItem_X8_readEdges : GoodIn wsX8_readItem (wsV RX8 45 RX8 yX8_readEdges wsX8_readEdges) := goodIn_app (goodIn_of _ (by decide +kernel)) ggX8_readItem_X8_readEdges
set_option maxRecDepth 20000 in
theorem ggX8_readItem_X8_isWord : GoodIn wsX8_readItem wsX8_isWord := goodIn_r _ [55, 1, 18, 7, 56, 57, 58, 59, 60, 61, 62, 63, 64, 65, 66, 67, 23, 24, 25, 5, 26, 27, 28, 68, 69, 70, 71, 72, 73, 74, 75, 76, 77, 78, 79, 80, 81, 82, 83, 84, 85, 86, 87, 88, 89, 90, 91, 92, 93, 94, 95, 96, 97, 98, 99, 100, 101, 102, 103, 104, 167, 168, 169, 170, 171] (by decide +kernel) (by decide +kernel)
set_option maxRecDepth 20000 in
theorem gX8_readItem_X8_isWord : GoodIn wsX8_readItem (wsV RX8 51 RX8 yX8_isWord wsX8_isWord) := goodIn_app (goodIn_of _ (by decide +kernel)) ggX8_readItem_X8_isWord
set_option maxRecDepth 20000 in
theorem ggX8_readItem_X8_readNodes : GoodIn wsX8_readItem wsX8_readNodes := goodIn_r _ [108, 38, 39, 40, 5, 41, 18, 7, 27, 1, 23, 24, 25, 26, 28, 42, 43, 44, 45, 109, 110, 111, 112, 19, 20, 21, 22, 113, 114, 115, 11, 116, 33, 13, 117, 167, 168, 169, 170, 171, 172, 173, 174, 175] (by decide +kernel) (by decide +kernel)
set_option maxRecDepth 20000 in
theorem gX8_readItem_X8_readNodes : GoodIn wsX8_readItem (wsV RX8 55 RX8 yX8_readNodes wsX8_readNodes) := goodIn_app (goodIn_of _ (by decide +kernel)) ggX8_readItem_X8_readNodes
set_option maxRecDepth 20000 in
theorem ggX8_readItem_X7_rounds : GoodIn wsX8_readItem wsX7_rounds := goodIn_r _ [121, 13, 172, 173, 174, 175] (by decide +kernel) (by decide +kernel)
set_option maxRecDepth 20000 in
theorem gX8_readItem_X7_rounds : GoodIn wsX8_readItem (wsV RX8 60 RX7 yX7_rounds wsX7_rounds) := goodIn_app (goodIn_of _ (by decide +kernel)) ggX8_readItem_X7_rounds
set_option maxRecDepth 20000 in
theorem ggX8_readItem_X8_readRepeat : GoodIn wsX8_readItem wsX8_readRepeat := goodIn_r _ [125, 38, 39, 40, 5, 41, 18, 7, 27, 1, 23, 24, 25, 26, 28, 42, 43, 44, 45, 109, 110, 111, 112, 19, 20, 21, 22, 118, 119, 120, 11, 121, 13, 126, 127, 128, 129, 50, 130, 131, 132, 133, 46, 47, 48, 49, 51, 9, 10, 12, 167, 168, 169, 170, 171, 172, 173, 174, 175] (by decide +kernel) (by decide +kernel)
set_option maxRecDepth 20000 in
theorem gX8_readItem_X8_readRepeat : GoodIn wsX8_readItem (wsV RX8 64 RX8 yX8_readRepeat wsX8_readRepeat) := goodIn_app (goodIn_of _ (by decide +kernel)) ggX8_readItem_X8_readRepeat
set_option maxRecDepth 20000 in
theorem ggX8_readItem_X7_isFull : GoodIn wsX8_readItem wsX7_isFull := goodIn_r _ [12, 13, 172, 173, 174, 175] (by decide +kernel) (by decide +kernel)
set_option maxRecDepth 20000 in
theorem gX8_readItem_X7_isFull : GoodIn wsX8_readItem (wsV RX8 67 RX7 yX7_isFull wsX7_isFull) := goodIn_app (goodIn_of _ (by decide +kernel)) ggX8_readItem_X7_isFull
set_option maxRecDepth 20000 in
theorem ggX8_readItem_X8_readStar : GoodIn wsX8_readItem wsX8_readStar := goodIn_r _ [137, 38, 39, 40, 5, 41, 18, 7, 27, 1, 23, 24, 25, 26, 28, 42, 43, 44, 45, 109, 110, 111, 112, 19, 20, 21, 22, 29, 30, 31, 11, 32, 33, 138, 139, 140, 141, 142, 143, 36, 144, 145, 35, 37, 46, 47, 48, 49, 50, 13, 51, 9, 10, 12, 167, 168, 169, 170, 171, 172, 173, 174, 175] (by decide +kernel) (by decide +kernel)
set_option maxRecDepth 20000 in
theorem gX8_readItem_X8_readStar : GoodIn wsX8_readItem (wsV RX8 70 RX8 yX8_readStar wsX8_readStar) := goodIn_app (goodIn_of _ (by decide +kernel)) ggX8_readItem_X8_readStar
set_option maxRecDepth 20000 in
theorem ggX8_readItem_X8_readPlainRound : GoodIn wsX8_readItem wsX8_readPlainRound := goodIn_r _ [149, 138, 139, 140, 11, 141, 33, 52, 53, 54, 5, 55, 1, 18, 7, 56, 57, 58, 59, 60, 61, 62, 63, 64, 65, 66, 67, 23, 24, 25, 26, 27, 28, 68, 69, 70, 71, 72, 73, 74, 75, 76, 77, 78, 79, 80, 81, 82, 83, 84, 85, 86, 87, 88, 89, 90, 91, 92, 93, 94, 95, 96, 97, 98, 99, 100, 101, 102, 103, 104, 46, 47, 48, 49, 50, 13, 51, 9, 10, 12, 150, 151, 152, 153, 154, 155, 36, 156, 157, 158, 159, 145, 35, 37, 160, 161, 162, 163, 164, 165, 166, 38, 39, 40, 41, 42, 43, 44, 45, 172, 173, 174, 175, 167, 168, 169, 170, 171] (by decide +kernel) (by decide +kernel)
set_option maxRecDepth 20000 in
theorem gX8_readItem_X8_readPlainRound : GoodIn wsX8_readItem (wsV RX8 73 RX8 yX8_readPlainRound wsX8_readPlainRound) := goodIn_app (goodIn_of _ (by decide +kernel)) ggX8_readItem_X8_readPlainRound
theorem dX8_readItem_0 : decode cX8_readItem 0 = .ok (.aload_n 0, 1) := by decide +kernel
theorem dX8_readItem_1 : decode cX8_readItem 1 = .ok (.getfield 35, 3) := by decide +kernel
theorem dX8_readItem_4 : decode cX8_readItem 4 = .ok (.iconst 2, 1) := by decide +kernel
theorem dX8_readItem_5 : decode cX8_readItem 5 = .ok (.if_icmp .ne 9, 3) := by decide +kernel
theorem dX8_readItem_8 : decode cX8_readItem 8 = .ok (.aload_n 0, 1) := by decide +kernel
theorem dX8_readItem_9 : decode cX8_readItem 9 = .ok (.aload_n 1, 1) := by decide +kernel
theorem dX8_readItem_10 : decode cX8_readItem 10 = .ok (.invokevirtual 45, 3) := by decide +kernel
theorem dX8_readItem_13 : decode cX8_readItem 13 = .ok (.ireturn, 1) := by decide +kernel
theorem dX8_readItem_14 : decode cX8_readItem 14 = .ok (.aload_n 0, 1) := by decide +kernel
theorem dX8_readItem_15 : decode cX8_readItem 15 = .ok (.ldc 49, 2) := by decide +kernel
theorem dX8_readItem_17 : decode cX8_readItem 17 = .ok (.invokevirtual 51, 3) := by decide +kernel
theorem dX8_readItem_20 : decode cX8_readItem 20 = .ok (.ifCond .eq 21, 3) := by decide +kernel
theorem dX8_readItem_23 : decode cX8_readItem 23 = .ok (.iload_n 2, 1) := by decide +kernel
theorem dX8_readItem_24 : decode cX8_readItem 24 = .ok (.ifCond .eq 15, 3) := by decide +kernel
theorem dX8_readItem_27 : decode cX8_readItem 27 = .ok (.aload_n 0, 1) := by decide +kernel
theorem dX8_readItem_28 : decode cX8_readItem 28 = .ok (.aload_n 1, 1) := by decide +kernel
theorem dX8_readItem_29 : decode cX8_readItem 29 = .ok (.invokevirtual 55, 3) := by decide +kernel
theorem dX8_readItem_32 : decode cX8_readItem 32 = .ok (.ifCond .eq 7, 3) := by decide +kernel
theorem dX8_readItem_35 : decode cX8_readItem 35 = .ok (.iconst 1, 1) := by decide +kernel
theorem dX8_readItem_36 : decode cX8_readItem 36 = .ok (.goto 4, 3) := by decide +kernel
theorem dX8_readItem_39 : decode cX8_readItem 39 = .ok (.iconst 0, 1) := by decide +kernel
theorem dX8_readItem_40 : decode cX8_readItem 40 = .ok (.ireturn, 1) := by decide +kernel
theorem dX8_readItem_41 : decode cX8_readItem 41 = .ok (.aload_n 0, 1) := by decide +kernel
theorem dX8_readItem_42 : decode cX8_readItem 42 = .ok (.ldc 58, 2) := by decide +kernel
theorem dX8_readItem_44 : decode cX8_readItem 44 = .ok (.invokevirtual 51, 3) := by decide +kernel
theorem dX8_readItem_47 : decode cX8_readItem 47 = .ok (.ifCond .eq 24, 3) := by decide +kernel
theorem dX8_readItem_50 : decode cX8_readItem 50 = .ok (.aload_n 1, 1) := by decide +kernel
theorem dX8_readItem_51 : decode cX8_readItem 51 = .ok (.invokevirtual 60, 3) := by decide +kernel
theorem dX8_readItem_54 : decode cX8_readItem 54 = .ok (.ifCond .le 15, 3) := by decide +kernel
theorem dX8_readItem_57 : decode cX8_readItem 57 = .ok (.aload_n 0, 1) := by decide +kernel
theorem dX8_readItem_58 : decode cX8_readItem 58 = .ok (.aload_n 1, 1) := by decide +kernel
theorem dX8_readItem_59 : decode cX8_readItem 59 = .ok (.invokevirtual 64, 3) := by decide +kernel
theorem dX8_readItem_62 : decode cX8_readItem 62 = .ok (.ifCond .eq 7, 3) := by decide +kernel
theorem dX8_readItem_65 : decode cX8_readItem 65 = .ok (.iconst 1, 1) := by decide +kernel
theorem dX8_readItem_66 : decode cX8_readItem 66 = .ok (.goto 4, 3) := by decide +kernel
theorem dX8_readItem_69 : decode cX8_readItem 69 = .ok (.iconst 0, 1) := by decide +kernel
theorem dX8_readItem_70 : decode cX8_readItem 70 = .ok (.ireturn, 1) := by decide +kernel
theorem dX8_readItem_71 : decode cX8_readItem 71 = .ok (.aload_n 1, 1) := by decide +kernel
theorem dX8_readItem_72 : decode cX8_readItem 72 = .ok (.invokevirtual 67, 3) := by decide +kernel
theorem dX8_readItem_75 : decode cX8_readItem 75 = .ok (.ifCond .eq 5, 3) := by decide +kernel
theorem dX8_readItem_78 : decode cX8_readItem 78 = .ok (.iconst 0, 1) := by decide +kernel
theorem dX8_readItem_79 : decode cX8_readItem 79 = .ok (.ireturn, 1) := by decide +kernel
theorem dX8_readItem_80 : decode cX8_readItem 80 = .ok (.aload_n 0, 1) := by decide +kernel
theorem dX8_readItem_81 : decode cX8_readItem 81 = .ok (.ldc 68, 2) := by decide +kernel
theorem dX8_readItem_83 : decode cX8_readItem 83 = .ok (.invokevirtual 51, 3) := by decide +kernel
theorem dX8_readItem_86 : decode cX8_readItem 86 = .ok (.ifCond .eq 9, 3) := by decide +kernel
theorem dX8_readItem_89 : decode cX8_readItem 89 = .ok (.aload_n 0, 1) := by decide +kernel
theorem dX8_readItem_90 : decode cX8_readItem 90 = .ok (.aload_n 1, 1) := by decide +kernel
theorem dX8_readItem_91 : decode cX8_readItem 91 = .ok (.invokevirtual 70, 3) := by decide +kernel
theorem dX8_readItem_94 : decode cX8_readItem 94 = .ok (.ireturn, 1) := by decide +kernel
theorem dX8_readItem_95 : decode cX8_readItem 95 = .ok (.aload_n 0, 1) := by decide +kernel
theorem dX8_readItem_96 : decode cX8_readItem 96 = .ok (.aload_n 1, 1) := by decide +kernel
theorem dX8_readItem_97 : decode cX8_readItem 97 = .ok (.invokevirtual 73, 3) := by decide +kernel
theorem dX8_readItem_100 : decode cX8_readItem 100 = .ok (.ireturn, 1) := by decide +kernel
set_option maxRecDepth 20000 in
theorem ggX8_readNodes_X8_nextToken : GoodIn wsX8_readNodes wsX8_nextToken := goodIn_r _ [5, 6, 7, 8, 9, 10, 11, 12, 4, 13, 14, 15, 16, 17, 18, 35, 36, 37, 38, 39] (by decide +kernel) (by decide +kernel)
set_option maxRecDepth 20000 in
theorem gX8_readNodes_X8_nextToken : GoodIn wsX8_readNodes (wsV RX8 32 RX8 yX8_nextToken wsX8_nextToken) := goodIn_app (goodIn_of _ (by decide +kernel)) ggX8_readNodes_X8_nextToken
set_option maxRecDepth 20000 in
theorem ggX8_readNodes_X8_oneDigit : GoodIn wsX8_readNodes wsX8_oneDigit := goodIn_r _ [22, 9, 6, 7, 23, 24, 25, 4, 26, 10, 11, 12, 13, 8, 14, 35, 36, 37, 38, 39] (by decide +kernel) (by decide +kernel)
set_option maxRecDepth 20000 in
theorem gX8_readNodes_X8_oneDigit : GoodIn wsX8_readNodes (wsV RX8 76 RX8 yX8_oneDigit wsX8_oneDigit) := goodIn_app (goodIn_of _ (by decide +kernel)) ggX8_readNodes_X8_oneDigit
set_option maxRecDepth 20000 in
theorem ggX8_readNodes_X7_beginAnew : GoodIn wsX8_readNodes wsX7_beginAnew := goodIn_r _ [31, 32, 33, 34, 40, 41, 42, 43] (by decide +kernel) (by decide +kernel)
set_option maxRecDepth 20000 in
theorem gX8_readNodes_X7_beginAnew : GoodIn wsX8_readNodes (wsV RX8 23 RX7 yX7_beginAnew wsX7_beginAnew) := goodIn_app (goodIn_of _ (by decide +kernel)) ggX8_readNodes_X7_beginAnew
theorem dX8_readNodes_0 : decode cX8_readNodes 0 = .ok (.aload_n 0, 1) := by decide +kernel
theorem dX8_readNodes_1 : decode cX8_readNodes 1 = .ok (.invokevirtual 32, 3) := by decide +kernel
theorem dX8_readNodes_4 : decode cX8_readNodes 4 = .ok (.aload_n 0, 1) := by decide +kernel
theorem dX8_readNodes_5 : decode cX8_readNodes 5 = .ok (.invokevirtual 76, 3) := by decide +kernel
theorem dX8_readNodes_8 : decode cX8_readNodes 8 = .ok (.istore_n 2, 1) := by decide +kernel
theorem dX8_readNodes_9 : decode cX8_readNodes 9 = .ok (.iload_n 2, 1) := by decide +kernel
theorem dX8_readNodes_10 : decode cX8_readNodes 10 = .ok (.iconst 2, 1) := by decide +kernel
theorem dX8_readNodes_11 : decode cX8_readNodes 11 = .ok (.if_icmp .lt 9, 3) := by decide +kernel
theorem dX8_readNodes_14 : decode cX8_readNodes 14 = .ok (.iload_n 2, 1) := by decide +kernel
theorem dX8_readNodes_15 : decode cX8_readNodes 15 = .ok (.bipush 8, 2) := by decide +kernel
theorem dX8_readNodes_17 : decode cX8_readNodes 17 = .ok (.if_icmp .le 5, 3) := by decide +kernel
theorem dX8_readNodes_20 : decode cX8_readNodes 20 = .ok (.iconst 0, 1) := by decide +kernel
theorem dX8_readNodes_21 : decode cX8_readNodes 21 = .ok (.ireturn, 1) := by decide +kernel
theorem dX8_readNodes_22 : decode cX8_readNodes 22 = .ok (.aload_n 1, 1) := by decide +kernel
theorem dX8_readNodes_23 : decode cX8_readNodes 23 = .ok (.iload_n 2, 1) := by decide +kernel
theorem dX8_readNodes_24 : decode cX8_readNodes 24 = .ok (.invokevirtual 23, 3) := by decide +kernel
theorem dX8_readNodes_27 : decode cX8_readNodes 27 = .ok (.aload_n 0, 1) := by decide +kernel
theorem dX8_readNodes_28 : decode cX8_readNodes 28 = .ok (.invokevirtual 32, 3) := by decide +kernel
theorem dX8_readNodes_31 : decode cX8_readNodes 31 = .ok (.iconst 1, 1) := by decide +kernel
theorem dX8_readNodes_32 : decode cX8_readNodes 32 = .ok (.ireturn, 1) := by decide +kernel
set_option maxRecDepth 20000 in
theorem ggX8_readRepeat_X8_nextToken : GoodIn wsX8_readRepeat wsX8_nextToken := goodIn_r _ [5, 6, 7, 8, 9, 10, 11, 12, 4, 13, 14, 15, 16, 17, 18, 50, 51, 52, 53, 54] (by decide +kernel) (by decide +kernel)
set_option maxRecDepth 20000 in
theorem gX8_readRepeat_X8_nextToken : GoodIn wsX8_readRepeat (wsV RX8 32 RX8 yX8_nextToken wsX8_nextToken) := goodIn_app (goodIn_of _ (by decide +kernel)) ggX8_readRepeat_X8_nextToken
set_option maxRecDepth 20000 in
theorem ggX8_readRepeat_X8_oneDigit : GoodIn wsX8_readRepeat wsX8_oneDigit := goodIn_r _ [22, 9, 6, 7, 23, 24, 25, 4, 26, 10, 11, 12, 13, 8, 14, 50, 51, 52, 53, 54] (by decide +kernel) (by decide +kernel)
set_option maxRecDepth 20000 in
theorem gX8_readRepeat_X8_oneDigit : GoodIn wsX8_readRepeat (wsV RX8 76 RX8 yX8_oneDigit wsX8_oneDigit) := goodIn_app (goodIn_of _ (by decide +kernel)) ggX8_readRepeat_X8_oneDigit
set_option maxRecDepth 20000 in
theorem ggX8_readRepeat_X7_rounds : GoodIn wsX8_readRepeat wsX7_rounds := goodIn_r _ [31, 32, 55, 56, 57, 58] (by decide +kernel) (by decide +kernel)
set_option maxRecDepth 20000 in
theorem gX8_readRepeat_X7_rounds : GoodIn wsX8_readRepeat (wsV RX8 60 RX7 yX7_rounds wsX7_rounds) := goodIn_app (goodIn_of _ (by decide +kernel)) ggX8_readRepeat_X7_rounds
set_option maxRecDepth 20000 in
theorem ggX8_readRepeat_X7_edgesOf : GoodIn wsX8_readRepeat wsX7_edgesOf := goodIn_r _ [36, 37, 38, 39, 40, 30, 41, 32, 55, 56, 57, 58] (by decide +kernel) (by decide +kernel)
set_option maxRecDepth 20000 in
theorem gX8_readRepeat_X7_edgesOf : GoodIn wsX8_readRepeat (wsV RX8 79 RX7 yX7_edgesOf wsX7_edgesOf) := goodIn_app (goodIn_of _ (by decide +kernel)) ggX8_readRepeat_X7_edgesOf
set_option maxRecDepth 20000 in
theorem ggX8_readRepeat_X7_append : GoodIn wsX8_readRepeat wsX7_append := goodIn_r _ [45, 37, 32, 46, 47, 48, 30, 49, 55, 56, 57, 58] (by decide +kernel) (by decide +kernel)
set_option maxRecDepth 20000 in
theorem gX8_readRepeat_X7_append : GoodIn wsX8_readRepeat (wsV RX8 83 RX7 yX7_append wsX7_append) := goodIn_app (goodIn_of _ (by decide +kernel)) ggX8_readRepeat_X7_append
theorem dX8_readRepeat_0 : decode cX8_readRepeat 0 = .ok (.aload_n 0, 1) := by decide +kernel
theorem dX8_readRepeat_1 : decode cX8_readRepeat 1 = .ok (.invokevirtual 32, 3) := by decide +kernel
theorem dX8_readRepeat_4 : decode cX8_readRepeat 4 = .ok (.aload_n 0, 1) := by decide +kernel
theorem dX8_readRepeat_5 : decode cX8_readRepeat 5 = .ok (.invokevirtual 76, 3) := by decide +kernel
theorem dX8_readRepeat_8 : decode cX8_readRepeat 8 = .ok (.istore_n 2, 1) := by decide +kernel
theorem dX8_readRepeat_9 : decode cX8_readRepeat 9 = .ok (.iload_n 2, 1) := by decide +kernel
theorem dX8_readRepeat_10 : decode cX8_readRepeat 10 = .ok (.iconst 1, 1) := by decide +kernel
theorem dX8_readRepeat_11 : decode cX8_readRepeat 11 = .ok (.if_icmp .lt 14, 3) := by decide +kernel
theorem dX8_readRepeat_14 : decode cX8_readRepeat 14 = .ok (.iload_n 2, 1) := by decide +kernel
theorem dX8_readRepeat_15 : decode cX8_readRepeat 15 = .ok (.bipush 16, 2) := by decide +kernel
theorem dX8_readRepeat_17 : decode cX8_readRepeat 17 = .ok (.aload_n 1, 1) := by decide +kernel
theorem dX8_readRepeat_18 : decode cX8_readRepeat 18 = .ok (.invokevirtual 60, 3) := by decide +kernel
theorem dX8_readRepeat_21 : decode cX8_readRepeat 21 = .ok (.isub, 1) := by decide +kernel
theorem dX8_readRepeat_22 : decode cX8_readRepeat 22 = .ok (.if_icmp .le 5, 3) := by decide +kernel
theorem dX8_readRepeat_25 : decode cX8_readRepeat 25 = .ok (.iconst 0, 1) := by decide +kernel
theorem dX8_readRepeat_26 : decode cX8_readRepeat 26 = .ok (.ireturn, 1) := by decide +kernel
theorem dX8_readRepeat_27 : decode cX8_readRepeat 27 = .ok (.aload_n 1, 1) := by decide +kernel
theorem dX8_readRepeat_28 : decode cX8_readRepeat 28 = .ok (.aload_n 1, 1) := by decide +kernel
theorem dX8_readRepeat_29 : decode cX8_readRepeat 29 = .ok (.invokevirtual 60, 3) := by decide +kernel
theorem dX8_readRepeat_32 : decode cX8_readRepeat 32 = .ok (.iconst 1, 1) := by decide +kernel
theorem dX8_readRepeat_33 : decode cX8_readRepeat 33 = .ok (.isub, 1) := by decide +kernel
theorem dX8_readRepeat_34 : decode cX8_readRepeat 34 = .ok (.invokevirtual 79, 3) := by decide +kernel
theorem dX8_readRepeat_37 : decode cX8_readRepeat 37 = .ok (.istore_n 3, 1) := by decide +kernel
theorem dX8_readRepeat_38 : decode cX8_readRepeat 38 = .ok (.iconst 0, 1) := by decide +kernel
theorem dX8_readRepeat_39 : decode cX8_readRepeat 39 = .ok (.istore 4, 2) := by decide +kernel
theorem dX8_readRepeat_41 : decode cX8_readRepeat 41 = .ok (.iload 4, 2) := by decide +kernel
theorem dX8_readRepeat_43 : decode cX8_readRepeat 43 = .ok (.iload_n 2, 1) := by decide +kernel
theorem dX8_readRepeat_44 : decode cX8_readRepeat 44 = .ok (.if_icmp .ge 14, 3) := by decide +kernel
theorem dX8_readRepeat_47 : decode cX8_readRepeat 47 = .ok (.aload_n 1, 1) := by decide +kernel
theorem dX8_readRepeat_48 : decode cX8_readRepeat 48 = .ok (.iload_n 3, 1) := by decide +kernel
theorem dX8_readRepeat_49 : decode cX8_readRepeat 49 = .ok (.invokevirtual 83, 3) := by decide +kernel
theorem dX8_readRepeat_52 : decode cX8_readRepeat 52 = .ok (.iinc 4 1, 3) := by decide +kernel
theorem dX8_readRepeat_55 : decode cX8_readRepeat 55 = .ok (.goto (-14), 3) := by decide +kernel
theorem dX8_readRepeat_58 : decode cX8_readRepeat 58 = .ok (.aload_n 0, 1) := by decide +kernel
theorem dX8_readRepeat_59 : decode cX8_readRepeat 59 = .ok (.invokevirtual 32, 3) := by decide +kernel
theorem dX8_readRepeat_62 : decode cX8_readRepeat 62 = .ok (.iconst 1, 1) := by decide +kernel
theorem dX8_readRepeat_63 : decode cX8_readRepeat 63 = .ok (.ireturn, 1) := by decide +kernel
set_option maxRecDepth 20000 in
theorem ggX8_readStar_X8_nextToken : GoodIn wsX8_readStar wsX8_nextToken := goodIn_r _ [5, 6, 7, 8, 9, 10, 11, 12, 4, 13, 14, 15, 16, 17, 18, 54, 55, 56, 57, 58] (by decide +kernel) (by decide +kernel)
set_option maxRecDepth 20000 in
theorem gX8_readStar_X8_nextToken : GoodIn wsX8_readStar (wsV RX8 32 RX8 yX8_nextToken wsX8_nextToken) := goodIn_app (goodIn_of _ (by decide +kernel)) ggX8_readStar_X8_nextToken
set_option maxRecDepth 20000 in
theorem ggX8_readStar_X8_oneDigit : GoodIn wsX8_readStar wsX8_oneDigit := goodIn_r _ [22, 9, 6, 7, 23, 24, 25, 4, 26, 10, 11, 12, 13, 8, 14, 54, 55, 56, 57, 58] (by decide +kernel) (by decide +kernel)
set_option maxRecDepth 20000 in
theorem gX8_readStar_X8_oneDigit : GoodIn wsX8_readStar (wsV RX8 76 RX8 yX8_oneDigit wsX8_oneDigit) := goodIn_app (goodIn_of _ (by decide +kernel)) ggX8_readStar_X8_oneDigit
set_option maxRecDepth 20000 in
theorem ggX8_readStar_X7_hasNode : GoodIn wsX8_readStar wsX7_hasNode := goodIn_r _ [31, 32, 59, 60, 61, 62] (by decide +kernel) (by decide +kernel)
set_option maxRecDepth 20000 in
theorem gX8_readStar_X7_hasNode : GoodIn wsX8_readStar (wsV RX8 86 RX7 yX7_hasNode wsX7_hasNode) := goodIn_app (goodIn_of _ (by decide +kernel)) ggX8_readStar_X7_hasNode
set_option maxRecDepth 20000 in
theorem ggX8_readStar_X7_nodes : GoodIn wsX8_readStar wsX7_nodes := goodIn_r _ [36, 32, 59, 60, 61, 62] (by decide +kernel) (by decide +kernel)
set_option maxRecDepth 20000 in
theorem gX8_readStar_X7_nodes : GoodIn wsX8_readStar (wsV RX8 90 RX7 yX7_nodes wsX7_nodes) := goodIn_app (goodIn_of _ (by decide +kernel)) ggX8_readStar_X7_nodes
set_option maxRecDepth 20000 in
theorem ggX8_readStar_X2_star : GoodIn wsX8_readStar wsX2_star := goodIn_r _ [40, 41, 42, 39, 43] (by decide +kernel) (by decide +kernel)
set_option maxRecDepth 20000 in
theorem gX8_readStar_X2_star : GoodIn wsX8_readStar (va_wsS RX8 92 yX2_star wsX2_star) := goodIn_app (goodIn_of _ (by decide +kernel)) ggX8_readStar_X2_star
set_option maxRecDepth 20000 in
theorem ggX8_readStar_X7_append : GoodIn wsX8_readStar wsX7_append := goodIn_r _ [47, 48, 49, 50, 51, 52, 30, 53, 59, 60, 61, 62] (by decide +kernel) (by decide +kernel)
set_option maxRecDepth 20000 in
theorem gX8_readStar_X7_append : GoodIn wsX8_readStar (wsV RX8 83 RX7 yX7_append wsX7_append) := goodIn_app (goodIn_of _ (by decide +kernel)) ggX8_readStar_X7_append
theorem dX8_readStar_0 : decode cX8_readStar 0 = .ok (.aload_n 0, 1) := by decide +kernel
theorem dX8_readStar_1 : decode cX8_readStar 1 = .ok (.invokevirtual 32, 3) := by decide +kernel
theorem dX8_readStar_4 : decode cX8_readStar 4 = .ok (.aload_n 0, 1) := by decide +kernel
theorem dX8_readStar_5 : decode cX8_readStar 5 = .ok (.invokevirtual 76, 3) := by decide +kernel
theorem dX8_readStar_8 : decode cX8_readStar 8 = .ok (.istore_n 2, 1) := by decide +kernel
theorem dX8_readStar_9 : decode cX8_readStar 9 = .ok (.aload_n 1, 1) := by decide +kernel
theorem dX8_readStar_10 : decode cX8_readStar 10 = .ok (.iload_n 2, 1) := by decide +kernel
theorem dX8_readStar_11 : decode cX8_readStar 11 = .ok (.invokevirtual 86, 3) := by decide +kernel
theorem dX8_readStar_14 : decode cX8_readStar 14 = .ok (.ifCond .ne 5, 3) := by decide +kernel
theorem dX8_readStar_17 : decode cX8_readStar 17 = .ok (.iconst 0, 1) := by decide +kernel
theorem dX8_readStar_18 : decode cX8_readStar 18 = .ok (.ireturn, 1) := by decide +kernel
theorem dX8_readStar_19 : decode cX8_readStar 19 = .ok (.aload_n 1, 1) := by decide +kernel
theorem dX8_readStar_20 : decode cX8_readStar 20 = .ok (.iload_n 2, 1) := by decide +kernel
theorem dX8_readStar_21 : decode cX8_readStar 21 = .ok (.aload_n 1, 1) := by decide +kernel
theorem dX8_readStar_22 : decode cX8_readStar 22 = .ok (.invokevirtual 90, 3) := by decide +kernel
theorem dX8_readStar_25 : decode cX8_readStar 25 = .ok (.invokestatic 92, 3) := by decide +kernel
theorem dX8_readStar_28 : decode cX8_readStar 28 = .ok (.invokevirtual 83, 3) := by decide +kernel
theorem dX8_readStar_31 : decode cX8_readStar 31 = .ok (.aload_n 0, 1) := by decide +kernel
theorem dX8_readStar_32 : decode cX8_readStar 32 = .ok (.invokevirtual 32, 3) := by decide +kernel
theorem dX8_readStar_35 : decode cX8_readStar 35 = .ok (.iconst 1, 1) := by decide +kernel
theorem dX8_readStar_36 : decode cX8_readStar 36 = .ok (.ireturn, 1) := by decide +kernel
set_option maxRecDepth 20000 in
theorem ggX8_readPlainRound_X7_nodes : GoodIn wsX8_readPlainRound wsX7_nodes := goodIn_r _ [5, 6, 109, 110, 111, 112] (by decide +kernel) (by decide +kernel)
set_option maxRecDepth 20000 in
theorem gX8_readPlainRound_X7_nodes : GoodIn wsX8_readPlainRound (wsV RX8 90 RX7 yX7_nodes wsX7_nodes) := goodIn_app (goodIn_of _ (by decide +kernel)) ggX8_readPlainRound_X7_nodes
set_option maxRecDepth 20000 in
theorem ggX8_readPlainRound_X8_isWord : GoodIn wsX8_readPlainRound wsX8_isWord := goodIn_r _ [11, 12, 13, 14, 15, 16, 17, 18, 19, 20, 21, 22, 23, 24, 25, 26, 27, 28, 29, 10, 30, 31, 32, 33, 34, 35, 36, 37, 38, 39, 40, 41, 42, 43, 44, 45, 46, 47, 48, 49, 50, 51, 52, 53, 54, 55, 56, 57, 58, 59, 60, 61, 62, 63, 64, 65, 66, 67, 68, 69, 113, 114, 115, 116, 117] (by decide +kernel) (by decide +kernel)
set_option maxRecDepth 20000 in
theorem gX8_readPlainRound_X8_isWord : GoodIn wsX8_readPlainRound (wsV RX8 51 RX8 yX8_isWord wsX8_isWord) := goodIn_app (goodIn_of _ (by decide +kernel)) ggX8_readPlainRound_X8_isWord
set_option maxRecDepth 20000 in
theorem ggX8_readPlainRound_X7_append : GoodIn wsX8_readPlainRound wsX7_append := goodIn_r _ [73, 74, 75, 76, 77, 78, 4, 79, 109, 110, 111, 112] (by decide +kernel) (by decide +kernel)
set_option maxRecDepth 20000 in
theorem gX8_readPlainRound_X7_append : GoodIn wsX8_readPlainRound (wsV RX8 83 RX7 yX7_append wsX7_append) := goodIn_app (goodIn_of _ (by decide +kernel)) ggX8_readPlainRound_X7_append
set_option maxRecDepth 20000 in
theorem ggX8_readPlainRound_X6_firstOnes : GoodIn wsX8_readPlainRound wsX6_firstOnes := goodIn_r _ [83] (by decide +kernel) (by decide +kernel)
set_option maxRecDepth 20000 in
theorem gX8_readPlainRound_X6_firstOnes : GoodIn wsX8_readPlainRound (va_wsS RX8 101 yX6_firstOnes wsX6_firstOnes) := goodIn_app (goodIn_of _ (by decide +kernel)) ggX8_readPlainRound_X6_firstOnes
set_option maxRecDepth 20000 in
theorem ggX8_readPlainRound_X2_clique : GoodIn wsX8_readPlainRound wsX2_clique := goodIn_r _ [87, 88, 89, 82, 90, 91, 92, 86, 93] (by decide +kernel) (by decide +kernel)
set_option maxRecDepth 20000 in
theorem gX8_readPlainRound_X2_clique : GoodIn wsX8_readPlainRound (va_wsS RX8 106 yX2_clique wsX2_clique) := goodIn_app (goodIn_of _ (by decide +kernel)) ggX8_readPlainRound_X2_clique
set_option maxRecDepth 20000 in
theorem ggX8_readPlainRound_X2_path : GoodIn wsX8_readPlainRound wsX2_path := goodIn_r _ [96, 91, 92, 86, 93] (by decide +kernel) (by decide +kernel)
set_option maxRecDepth 20000 in
theorem gX8_readPlainRound_X2_path : GoodIn wsX8_readPlainRound (va_wsS RX8 111 yX2_path wsX2_path) := goodIn_app (goodIn_of _ (by decide +kernel)) ggX8_readPlainRound_X2_path
set_option maxRecDepth 20000 in
theorem ggX8_readPlainRound_X2_ring : GoodIn wsX8_readPlainRound wsX2_ring := goodIn_r _ [99, 100, 95, 86, 96, 91, 92, 93] (by decide +kernel) (by decide +kernel)
set_option maxRecDepth 20000 in
theorem gX8_readPlainRound_X2_ring : GoodIn wsX8_readPlainRound (va_wsS RX8 115 yX2_ring wsX2_ring) := goodIn_app (goodIn_of _ (by decide +kernel)) ggX8_readPlainRound_X2_ring
set_option maxRecDepth 20000 in
theorem ggX8_readPlainRound_X8_nextToken : GoodIn wsX8_readPlainRound wsX8_nextToken := goodIn_r _ [104, 13, 14, 31, 12, 27, 28, 29, 10, 30, 32, 105, 106, 107, 108, 113, 114, 115, 116, 117] (by decide +kernel) (by decide +kernel)
set_option maxRecDepth 20000 in
theorem gX8_readPlainRound_X8_nextToken : GoodIn wsX8_readPlainRound (wsV RX8 32 RX8 yX8_nextToken wsX8_nextToken) := goodIn_app (goodIn_of _ (by decide +kernel)) ggX8_readPlainRound_X8_nextToken
theorem dX8_readPlainRound_0 : decode cX8_readPlainRound 0 = .ok (.aload_n 1, 1) := by decide +kernel
theorem dX8_readPlainRound_1 : decode cX8_readPlainRound 1 = .ok (.invokevirtual 90, 3) := by decide +kernel
theorem dX8_readPlainRound_4 : decode cX8_readPlainRound 4 = .ok (.istore_n 2, 1) := by decide +kernel
theorem dX8_readPlainRound_5 : decode cX8_readPlainRound 5 = .ok (.aload_n 0, 1) := by decide +kernel
theorem dX8_readPlainRound_6 : decode cX8_readPlainRound 6 = .ok (.ldc 97, 2) := by decide +kernel
theorem dX8_readPlainRound_8 : decode cX8_readPlainRound 8 = .ok (.invokevirtual 51, 3) := by decide +kernel
theorem dX8_readPlainRound_11 : decode cX8_readPlainRound 11 = .ok (.ifCond .eq 11, 3) := by decide +kernel
theorem dX8_readPlainRound_14 : decode cX8_readPlainRound 14 = .ok (.aload_n 1, 1) := by decide +kernel
theorem dX8_readPlainRound_15 : decode cX8_readPlainRound 15 = .ok (.iconst 0, 1) := by decide +kernel
theorem dX8_readPlainRound_16 : decode cX8_readPlainRound 16 = .ok (.invokevirtual 83, 3) := by decide +kernel
theorem dX8_readPlainRound_19 : decode cX8_readPlainRound 19 = .ok (.goto 68, 3) := by decide +kernel
theorem dX8_readPlainRound_22 : decode cX8_readPlainRound 22 = .ok (.aload_n 0, 1) := by decide +kernel
theorem dX8_readPlainRound_23 : decode cX8_readPlainRound 23 = .ok (.ldc 99, 2) := by decide +kernel
theorem dX8_readPlainRound_25 : decode cX8_readPlainRound 25 = .ok (.invokevirtual 51, 3) := by decide +kernel
theorem dX8_readPlainRound_28 : decode cX8_readPlainRound 28 = .ok (.ifCond .eq 17, 3) := by decide +kernel
theorem dX8_readPlainRound_31 : decode cX8_readPlainRound 31 = .ok (.aload_n 1, 1) := by decide +kernel
theorem dX8_readPlainRound_32 : decode cX8_readPlainRound 32 = .ok (.iload_n 2, 1) := by decide +kernel
theorem dX8_readPlainRound_33 : decode cX8_readPlainRound 33 = .ok (.invokestatic 101, 3) := by decide +kernel
theorem dX8_readPlainRound_36 : decode cX8_readPlainRound 36 = .ok (.invokestatic 106, 3) := by decide +kernel
theorem dX8_readPlainRound_39 : decode cX8_readPlainRound 39 = .ok (.invokevirtual 83, 3) := by decide +kernel
theorem dX8_readPlainRound_42 : decode cX8_readPlainRound 42 = .ok (.goto 45, 3) := by decide +kernel
theorem dX8_readPlainRound_45 : decode cX8_readPlainRound 45 = .ok (.aload_n 0, 1) := by decide +kernel
theorem dX8_readPlainRound_46 : decode cX8_readPlainRound 46 = .ok (.ldc 109, 2) := by decide +kernel
theorem dX8_readPlainRound_48 : decode cX8_readPlainRound 48 = .ok (.invokevirtual 51, 3) := by decide +kernel
theorem dX8_readPlainRound_51 : decode cX8_readPlainRound 51 = .ok (.ifCond .eq 14, 3) := by decide +kernel
theorem dX8_readPlainRound_54 : decode cX8_readPlainRound 54 = .ok (.aload_n 1, 1) := by decide +kernel
theorem dX8_readPlainRound_55 : decode cX8_readPlainRound 55 = .ok (.iload_n 2, 1) := by decide +kernel
theorem dX8_readPlainRound_56 : decode cX8_readPlainRound 56 = .ok (.invokestatic 111, 3) := by decide +kernel
theorem dX8_readPlainRound_59 : decode cX8_readPlainRound 59 = .ok (.invokevirtual 83, 3) := by decide +kernel
theorem dX8_readPlainRound_62 : decode cX8_readPlainRound 62 = .ok (.goto 25, 3) := by decide +kernel
theorem dX8_readPlainRound_65 : decode cX8_readPlainRound 65 = .ok (.aload_n 0, 1) := by decide +kernel
theorem dX8_readPlainRound_66 : decode cX8_readPlainRound 66 = .ok (.ldc 113, 2) := by decide +kernel
theorem dX8_readPlainRound_68 : decode cX8_readPlainRound 68 = .ok (.invokevirtual 51, 3) := by decide +kernel
theorem dX8_readPlainRound_71 : decode cX8_readPlainRound 71 = .ok (.ifCond .eq 14, 3) := by decide +kernel
theorem dX8_readPlainRound_74 : decode cX8_readPlainRound 74 = .ok (.aload_n 1, 1) := by decide +kernel
theorem dX8_readPlainRound_75 : decode cX8_readPlainRound 75 = .ok (.iload_n 2, 1) := by decide +kernel
theorem dX8_readPlainRound_76 : decode cX8_readPlainRound 76 = .ok (.invokestatic 115, 3) := by decide +kernel
theorem dX8_readPlainRound_79 : decode cX8_readPlainRound 79 = .ok (.invokevirtual 83, 3) := by decide +kernel
theorem dX8_readPlainRound_82 : decode cX8_readPlainRound 82 = .ok (.goto 5, 3) := by decide +kernel
theorem dX8_readPlainRound_85 : decode cX8_readPlainRound 85 = .ok (.iconst 0, 1) := by decide +kernel
theorem dX8_readPlainRound_86 : decode cX8_readPlainRound 86 = .ok (.ireturn, 1) := by decide +kernel
theorem dX8_readPlainRound_87 : decode cX8_readPlainRound 87 = .ok (.aload_n 0, 1) := by decide +kernel
theorem dX8_readPlainRound_88 : decode cX8_readPlainRound 88 = .ok (.invokevirtual 32, 3) := by decide +kernel
theorem dX8_readPlainRound_91 : decode cX8_readPlainRound 91 = .ok (.iconst 1, 1) := by decide +kernel
theorem dX8_readPlainRound_92 : decode cX8_readPlainRound 92 = .ok (.ireturn, 1) := by decide +kernel
set_option maxRecDepth 20000 in
theorem ggX8_readEdges_X7_isFull : GoodIn wsX8_readEdges wsX7_isFull := goodIn_r _ [7, 8, 53, 54, 55, 56] (by decide +kernel) (by decide +kernel)
set_option maxRecDepth 20000 in
theorem gX8_readEdges_X7_isFull : GoodIn wsX8_readEdges (wsV RX8 67 RX7 yX7_isFull wsX7_isFull) := goodIn_app (goodIn_of _ (by decide +kernel)) ggX8_readEdges_X7_isFull
set_option maxRecDepth 20000 in
theorem ggX8_readEdges_X8_isEdge : GoodIn wsX8_readEdges wsX8_isEdge := goodIn_r _ [13, 14, 2, 15, 16, 17, 12, 18, 19, 20, 21, 22, 23, 24, 25, 26, 27, 6, 28, 29, 48, 49, 50, 51, 52, 53, 54, 55, 56] (by decide +kernel) (by decide +kernel)
set_option maxRecDepth 20000 in
theorem gX8_readEdges_X8_isEdge : GoodIn wsX8_readEdges (wsV RX8 117 RX8 yX8_isEdge wsX8_isEdge) := goodIn_app (goodIn_of _ (by decide +kernel)) ggX8_readEdges_X8_isEdge
set_option maxRecDepth 20000 in
theorem ggX8_readEdges_X8_digitAt : GoodIn wsX8_readEdges wsX8_digitAt := goodIn_r _ [18, 19, 20, 21, 12, 22, 23, 24, 48, 49, 50, 51, 52] (by decide +kernel) (by decide +kernel)
set_option maxRecDepth 20000 in
theorem gX8_readEdges_X8_digitAt : GoodIn wsX8_readEdges (wsV RX8 120 RX8 yX8_digitAt wsX8_digitAt) := goodIn_app (goodIn_of _ (by decide +kernel)) ggX8_readEdges_X8_digitAt
set_option maxRecDepth 20000 in
theorem ggX8_readEdges_X2_between : GoodIn wsX8_readEdges wsX2_between := goodIn_r _ [33] (by decide +kernel) (by decide +kernel)
set_option maxRecDepth 20000 in
theorem gX8_readEdges_X2_between : GoodIn wsX8_readEdges (va_wsS RX8 123 yX2_between wsX2_between) := goodIn_app (goodIn_of _ (by decide +kernel)) ggX8_readEdges_X2_between
set_option maxRecDepth 20000 in
theorem ggX8_readEdges_X8_nextToken : GoodIn wsX8_readEdges wsX8_nextToken := goodIn_r _ [37, 14, 2, 23, 1, 19, 20, 21, 12, 22, 24, 38, 39, 40, 41, 48, 49, 50, 51, 52] (by decide +kernel) (by decide +kernel)
set_option maxRecDepth 20000 in
theorem gX8_readEdges_X8_nextToken : GoodIn wsX8_readEdges (wsV RX8 32 RX8 yX8_nextToken wsX8_nextToken) := goodIn_app (goodIn_of _ (by decide +kernel)) ggX8_readEdges_X8_nextToken
set_option maxRecDepth 20000 in
theorem ggX8_readEdges_X7_append : GoodIn wsX8_readEdges wsX7_append := goodIn_r _ [45, 46, 8, 47, 4, 5, 6, 7, 53, 54, 55, 56] (by decide +kernel) (by decide +kernel)
set_option maxRecDepth 20000 in
theorem gX8_readEdges_X7_append : GoodIn wsX8_readEdges (wsV RX8 83 RX7 yX7_append wsX7_append) := goodIn_app (goodIn_of _ (by decide +kernel)) ggX8_readEdges_X7_append
theorem dX8_readEdges_0 : decode cX8_readEdges 0 = .ok (.aload_n 1, 1) := by decide +kernel
theorem dX8_readEdges_1 : decode cX8_readEdges 1 = .ok (.invokevirtual 67, 3) := by decide +kernel
theorem dX8_readEdges_4 : decode cX8_readEdges 4 = .ok (.ifCond .eq 5, 3) := by decide +kernel
theorem dX8_readEdges_7 : decode cX8_readEdges 7 = .ok (.iconst 0, 1) := by decide +kernel
theorem dX8_readEdges_8 : decode cX8_readEdges 8 = .ok (.ireturn, 1) := by decide +kernel
theorem dX8_readEdges_9 : decode cX8_readEdges 9 = .ok (.iconst 0, 1) := by decide +kernel
theorem dX8_readEdges_10 : decode cX8_readEdges 10 = .ok (.istore_n 2, 1) := by decide +kernel
theorem dX8_readEdges_11 : decode cX8_readEdges 11 = .ok (.iconst 0, 1) := by decide +kernel
theorem dX8_readEdges_12 : decode cX8_readEdges 12 = .ok (.istore_n 3, 1) := by decide +kernel
theorem dX8_readEdges_13 : decode cX8_readEdges 13 = .ok (.iload_n 3, 1) := by decide +kernel
theorem dX8_readEdges_14 : decode cX8_readEdges 14 = .ok (.bipush 120, 2) := by decide +kernel
theorem dX8_readEdges_16 : decode cX8_readEdges 16 = .ok (.if_icmp .ge 55, 3) := by decide +kernel
theorem dX8_readEdges_19 : decode cX8_readEdges 19 = .ok (.aload_n 0, 1) := by decide +kernel
theorem dX8_readEdges_20 : decode cX8_readEdges 20 = .ok (.getfield 35, 3) := by decide +kernel
theorem dX8_readEdges_23 : decode cX8_readEdges 23 = .ok (.iconst 2, 1) := by decide +kernel
theorem dX8_readEdges_24 : decode cX8_readEdges 24 = .ok (.if_icmp .ne 47, 3) := by decide +kernel
theorem dX8_readEdges_27 : decode cX8_readEdges 27 = .ok (.aload_n 0, 1) := by decide +kernel
theorem dX8_readEdges_28 : decode cX8_readEdges 28 = .ok (.aload_n 1, 1) := by decide +kernel
theorem dX8_readEdges_29 : decode cX8_readEdges 29 = .ok (.invokevirtual 117, 3) := by decide +kernel
theorem dX8_readEdges_32 : decode cX8_readEdges 32 = .ok (.ifCond .ne 5, 3) := by decide +kernel
theorem dX8_readEdges_35 : decode cX8_readEdges 35 = .ok (.iconst 0, 1) := by decide +kernel
theorem dX8_readEdges_36 : decode cX8_readEdges 36 = .ok (.ireturn, 1) := by decide +kernel
theorem dX8_readEdges_37 : decode cX8_readEdges 37 = .ok (.iload_n 2, 1) := by decide +kernel
theorem dX8_readEdges_38 : decode cX8_readEdges 38 = .ok (.aload_n 0, 1) := by decide +kernel
theorem dX8_readEdges_39 : decode cX8_readEdges 39 = .ok (.aload_n 0, 1) := by decide +kernel
theorem dX8_readEdges_40 : decode cX8_readEdges 40 = .ok (.getfield 42, 3) := by decide +kernel
theorem dX8_readEdges_43 : decode cX8_readEdges 43 = .ok (.invokevirtual 120, 3) := by decide +kernel
theorem dX8_readEdges_46 : decode cX8_readEdges 46 = .ok (.aload_n 0, 1) := by decide +kernel
theorem dX8_readEdges_47 : decode cX8_readEdges 47 = .ok (.aload_n 0, 1) := by decide +kernel
theorem dX8_readEdges_48 : decode cX8_readEdges 48 = .ok (.getfield 42, 3) := by decide +kernel
theorem dX8_readEdges_51 : decode cX8_readEdges 51 = .ok (.iconst 1, 1) := by decide +kernel
theorem dX8_readEdges_52 : decode cX8_readEdges 52 = .ok (.iadd, 1) := by decide +kernel
theorem dX8_readEdges_53 : decode cX8_readEdges 53 = .ok (.invokevirtual 120, 3) := by decide +kernel
theorem dX8_readEdges_56 : decode cX8_readEdges 56 = .ok (.invokestatic 123, 3) := by decide +kernel
theorem dX8_readEdges_59 : decode cX8_readEdges 59 = .ok (.ior, 1) := by decide +kernel
theorem dX8_readEdges_60 : decode cX8_readEdges 60 = .ok (.istore_n 2, 1) := by decide +kernel
theorem dX8_readEdges_61 : decode cX8_readEdges 61 = .ok (.aload_n 0, 1) := by decide +kernel
theorem dX8_readEdges_62 : decode cX8_readEdges 62 = .ok (.invokevirtual 32, 3) := by decide +kernel
theorem dX8_readEdges_65 : decode cX8_readEdges 65 = .ok (.iinc 3 1, 3) := by decide +kernel
theorem dX8_readEdges_68 : decode cX8_readEdges 68 = .ok (.goto (-55), 3) := by decide +kernel
theorem dX8_readEdges_71 : decode cX8_readEdges 71 = .ok (.aload_n 1, 1) := by decide +kernel
theorem dX8_readEdges_72 : decode cX8_readEdges 72 = .ok (.iload_n 2, 1) := by decide +kernel
theorem dX8_readEdges_73 : decode cX8_readEdges 73 = .ok (.invokevirtual 83, 3) := by decide +kernel
theorem dX8_readEdges_76 : decode cX8_readEdges 76 = .ok (.iconst 1, 1) := by decide +kernel
theorem dX8_readEdges_77 : decode cX8_readEdges 77 = .ok (.ireturn, 1) := by decide +kernel
set_option maxRecDepth 20000 in
theorem ggX8_isEdge_X8_digitAt : GoodIn wsX8_isEdge wsX8_digitAt := goodIn_r _ [7, 8, 9, 10, 6, 11, 12, 13, 20, 21, 22, 23, 24] (by decide +kernel) (by decide +kernel)
set_option maxRecDepth 20000 in
theorem gX8_isEdge_X8_digitAt : GoodIn wsX8_isEdge (wsV RX8 120 RX8 yX8_digitAt wsX8_digitAt) := goodIn_app (goodIn_of _ (by decide +kernel)) ggX8_isEdge_X8_digitAt
set_option maxRecDepth 20000 in
theorem ggX8_isEdge_X7_hasNode : GoodIn wsX8_isEdge wsX7_hasNode := goodIn_r _ [18, 19, 25, 26, 27, 28] (by decide +kernel) (by decide +kernel)
set_option maxRecDepth 20000 in
theorem gX8_isEdge_X7_hasNode : GoodIn wsX8_isEdge (wsV RX8 86 RX7 yX7_hasNode wsX7_hasNode) := goodIn_app (goodIn_of _ (by decide +kernel)) ggX8_isEdge_X7_hasNode
theorem dX8_isEdge_0 : decode cX8_isEdge 0 = .ok (.aload_n 0, 1) := by decide +kernel
theorem dX8_isEdge_1 : decode cX8_isEdge 1 = .ok (.getfield 29, 3) := by decide +kernel
theorem dX8_isEdge_4 : decode cX8_isEdge 4 = .ok (.aload_n 0, 1) := by decide +kernel
theorem dX8_isEdge_5 : decode cX8_isEdge 5 = .ok (.getfield 42, 3) := by decide +kernel
theorem dX8_isEdge_8 : decode cX8_isEdge 8 = .ok (.isub, 1) := by decide +kernel
theorem dX8_isEdge_9 : decode cX8_isEdge 9 = .ok (.iconst 2, 1) := by decide +kernel
theorem dX8_isEdge_10 : decode cX8_isEdge 10 = .ok (.if_icmp .eq 5, 3) := by decide +kernel
theorem dX8_isEdge_13 : decode cX8_isEdge 13 = .ok (.iconst 0, 1) := by decide +kernel
theorem dX8_isEdge_14 : decode cX8_isEdge 14 = .ok (.ireturn, 1) := by decide +kernel
theorem dX8_isEdge_15 : decode cX8_isEdge 15 = .ok (.aload_n 0, 1) := by decide +kernel
theorem dX8_isEdge_16 : decode cX8_isEdge 16 = .ok (.aload_n 0, 1) := by decide +kernel
theorem dX8_isEdge_17 : decode cX8_isEdge 17 = .ok (.getfield 42, 3) := by decide +kernel
theorem dX8_isEdge_20 : decode cX8_isEdge 20 = .ok (.invokevirtual 120, 3) := by decide +kernel
theorem dX8_isEdge_23 : decode cX8_isEdge 23 = .ok (.istore_n 2, 1) := by decide +kernel
theorem dX8_isEdge_24 : decode cX8_isEdge 24 = .ok (.aload_n 0, 1) := by decide +kernel
theorem dX8_isEdge_25 : decode cX8_isEdge 25 = .ok (.aload_n 0, 1) := by decide +kernel
theorem dX8_isEdge_26 : decode cX8_isEdge 26 = .ok (.getfield 42, 3) := by decide +kernel
theorem dX8_isEdge_29 : decode cX8_isEdge 29 = .ok (.iconst 1, 1) := by decide +kernel
theorem dX8_isEdge_30 : decode cX8_isEdge 30 = .ok (.iadd, 1) := by decide +kernel
theorem dX8_isEdge_31 : decode cX8_isEdge 31 = .ok (.invokevirtual 120, 3) := by decide +kernel
theorem dX8_isEdge_34 : decode cX8_isEdge 34 = .ok (.istore_n 3, 1) := by decide +kernel
theorem dX8_isEdge_35 : decode cX8_isEdge 35 = .ok (.aload_n 1, 1) := by decide +kernel
theorem dX8_isEdge_36 : decode cX8_isEdge 36 = .ok (.iload_n 2, 1) := by decide +kernel
theorem dX8_isEdge_37 : decode cX8_isEdge 37 = .ok (.invokevirtual 86, 3) := by decide +kernel
theorem dX8_isEdge_40 : decode cX8_isEdge 40 = .ok (.ifCond .eq 20, 3) := by decide +kernel
theorem dX8_isEdge_43 : decode cX8_isEdge 43 = .ok (.aload_n 1, 1) := by decide +kernel
theorem dX8_isEdge_44 : decode cX8_isEdge 44 = .ok (.iload_n 3, 1) := by decide +kernel
theorem dX8_isEdge_45 : decode cX8_isEdge 45 = .ok (.invokevirtual 86, 3) := by decide +kernel
theorem dX8_isEdge_48 : decode cX8_isEdge 48 = .ok (.ifCond .eq 12, 3) := by decide +kernel
theorem dX8_isEdge_51 : decode cX8_isEdge 51 = .ok (.iload_n 2, 1) := by decide +kernel
theorem dX8_isEdge_52 : decode cX8_isEdge 52 = .ok (.iload_n 3, 1) := by decide +kernel
theorem dX8_isEdge_53 : decode cX8_isEdge 53 = .ok (.if_icmp .eq 7, 3) := by decide +kernel
theorem dX8_isEdge_56 : decode cX8_isEdge 56 = .ok (.iconst 1, 1) := by decide +kernel
theorem dX8_isEdge_57 : decode cX8_isEdge 57 = .ok (.goto 4, 3) := by decide +kernel
theorem dX8_isEdge_60 : decode cX8_isEdge 60 = .ok (.iconst 0, 1) := by decide +kernel
theorem dX8_isEdge_61 : decode cX8_isEdge 61 = .ok (.ireturn, 1) := by decide +kernel
set_option maxRecDepth 20000 in
theorem ggX8_oneDigit_X8_digitAt : GoodIn wsX8_oneDigit wsX8_digitAt := goodIn_r _ [8, 9, 10, 11, 7, 12, 13, 14, 15, 16, 17, 18, 19] (by decide +kernel) (by decide +kernel)
set_option maxRecDepth 20000 in
theorem gX8_oneDigit_X8_digitAt : GoodIn wsX8_oneDigit (wsV RX8 120 RX8 yX8_digitAt wsX8_digitAt) := goodIn_app (goodIn_of _ (by decide +kernel)) ggX8_oneDigit_X8_digitAt
theorem dX8_oneDigit_0 : decode cX8_oneDigit 0 = .ok (.aload_n 0, 1) := by decide +kernel
theorem dX8_oneDigit_1 : decode cX8_oneDigit 1 = .ok (.getfield 35, 3) := by decide +kernel
theorem dX8_oneDigit_4 : decode cX8_oneDigit 4 = .ok (.iconst 2, 1) := by decide +kernel
theorem dX8_oneDigit_5 : decode cX8_oneDigit 5 = .ok (.if_icmp .ne 27, 3) := by decide +kernel
theorem dX8_oneDigit_8 : decode cX8_oneDigit 8 = .ok (.aload_n 0, 1) := by decide +kernel
theorem dX8_oneDigit_9 : decode cX8_oneDigit 9 = .ok (.getfield 29, 3) := by decide +kernel
theorem dX8_oneDigit_12 : decode cX8_oneDigit 12 = .ok (.aload_n 0, 1) := by decide +kernel
theorem dX8_oneDigit_13 : decode cX8_oneDigit 13 = .ok (.getfield 42, 3) := by decide +kernel
theorem dX8_oneDigit_16 : decode cX8_oneDigit 16 = .ok (.isub, 1) := by decide +kernel
theorem dX8_oneDigit_17 : decode cX8_oneDigit 17 = .ok (.iconst 1, 1) := by decide +kernel
theorem dX8_oneDigit_18 : decode cX8_oneDigit 18 = .ok (.if_icmp .ne 14, 3) := by decide +kernel
theorem dX8_oneDigit_21 : decode cX8_oneDigit 21 = .ok (.aload_n 0, 1) := by decide +kernel
theorem dX8_oneDigit_22 : decode cX8_oneDigit 22 = .ok (.aload_n 0, 1) := by decide +kernel
theorem dX8_oneDigit_23 : decode cX8_oneDigit 23 = .ok (.getfield 42, 3) := by decide +kernel
theorem dX8_oneDigit_26 : decode cX8_oneDigit 26 = .ok (.invokevirtual 120, 3) := by decide +kernel
theorem dX8_oneDigit_29 : decode cX8_oneDigit 29 = .ok (.goto 4, 3) := by decide +kernel
theorem dX8_oneDigit_32 : decode cX8_oneDigit 32 = .ok (.iconst (-1), 1) := by decide +kernel
theorem dX8_oneDigit_33 : decode cX8_oneDigit 33 = .ok (.ireturn, 1) := by decide +kernel
set_option maxRecDepth 20000 in
theorem ggX8_digitAt_X8_characterAt : GoodIn wsX8_digitAt wsX8_characterAt := goodIn_r _ [5, 6, 7, 8, 9, 10, 11, 12] (by decide +kernel) (by decide +kernel)
set_option maxRecDepth 20000 in
theorem gX8_digitAt_X8_characterAt : GoodIn wsX8_digitAt (wsV RX8 126 RX8 yX8_characterAt wsX8_characterAt) := goodIn_app (goodIn_of _ (by decide +kernel)) ggX8_digitAt_X8_characterAt
theorem dX8_digitAt_0 : decode cX8_digitAt 0 = .ok (.aload_n 0, 1) := by decide +kernel
theorem dX8_digitAt_1 : decode cX8_digitAt 1 = .ok (.iload_n 1, 1) := by decide +kernel
theorem dX8_digitAt_2 : decode cX8_digitAt 2 = .ok (.invokevirtual 126, 3) := by decide +kernel
theorem dX8_digitAt_5 : decode cX8_digitAt 5 = .ok (.bipush 48, 2) := by decide +kernel
theorem dX8_digitAt_7 : decode cX8_digitAt 7 = .ok (.isub, 1) := by decide +kernel
theorem dX8_digitAt_8 : decode cX8_digitAt 8 = .ok (.ireturn, 1) := by decide +kernel
set_option maxRecDepth 20000 in
theorem ggX8_isWord_J0_length_8abf5 : GoodIn wsX8_isWord wsJ0_length_8abf5 := goodIn_r _ [8, 9, 10, 11, 12, 7, 13, 14, 15] (by decide +kernel) (by decide +kernel)
set_option maxRecDepth 20000 in
theorem gX8_isWord_J0_length_8abf5 : GoodIn wsX8_isWord (wsV RX8 130 RJ0 yJ0_length_8abf5 wsJ0_length_8abf5) := goodIn_app (goodIn_of _ (by decide +kernel)) ggX8_isWord_J0_length_8abf5
set_option maxRecDepth 20000 in
theorem ggX8_isWord_X8_characterAt : GoodIn wsX8_isWord wsX8_characterAt := goodIn_r _ [20, 21, 22, 60, 61, 62, 63, 64] (by decide +kernel) (by decide +kernel)
set_option maxRecDepth 20000 in
theorem gX8_isWord_X8_characterAt : GoodIn wsX8_isWord (wsV RX8 126 RX8 yX8_characterAt wsX8_characterAt) := goodIn_app (goodIn_of _ (by decide +kernel)) ggX8_isWord_X8_characterAt
set_option maxRecDepth 20000 in
theorem ggX8_isWord_J0_charAt_5068e : GoodIn wsX8_isWord wsJ0_charAt_5068e := goodIn_r _ [26, 9, 27, 28, 29, 7, 30, 14, 15, 31, 32, 33, 34, 35, 36, 37, 38, 39, 40, 41, 42, 43, 44, 45, 46, 47, 48, 49, 50, 51, 52, 53, 54, 55, 56, 57, 58, 59] (by decide +kernel) (by decide +kernel)
set_option maxRecDepth 20000 in
theorem gX8_isWord_J0_charAt_5068e : GoodIn wsX8_isWord (wsV RX8 134 RJ0 yJ0_charAt_5068e wsJ0_charAt_5068e) := goodIn_app (goodIn_of _ (by decide +kernel)) ggX8_isWord_J0_charAt_5068e
theorem dX8_isWord_0 : decode cX8_isWord 0 = .ok (.aload_n 0, 1) := by decide +kernel
theorem dX8_isWord_1 : decode cX8_isWord 1 = .ok (.getfield 35, 3) := by decide +kernel
theorem dX8_isWord_4 : decode cX8_isWord 4 = .ok (.iconst 1, 1) := by decide +kernel
theorem dX8_isWord_5 : decode cX8_isWord 5 = .ok (.if_icmp .ne 19, 3) := by decide +kernel
theorem dX8_isWord_8 : decode cX8_isWord 8 = .ok (.aload_n 0, 1) := by decide +kernel
theorem dX8_isWord_9 : decode cX8_isWord 9 = .ok (.getfield 29, 3) := by decide +kernel
theorem dX8_isWord_12 : decode cX8_isWord 12 = .ok (.aload_n 0, 1) := by decide +kernel
theorem dX8_isWord_13 : decode cX8_isWord 13 = .ok (.getfield 42, 3) := by decide +kernel
theorem dX8_isWord_16 : decode cX8_isWord 16 = .ok (.isub, 1) := by decide +kernel
theorem dX8_isWord_17 : decode cX8_isWord 17 = .ok (.aload_n 1, 1) := by decide +kernel
theorem dX8_isWord_18 : decode cX8_isWord 18 = .ok (.invokevirtual 130, 3) := by decide +kernel
theorem dX8_isWord_21 : decode cX8_isWord 21 = .ok (.if_icmp .eq 5, 3) := by decide +kernel
theorem dX8_isWord_24 : decode cX8_isWord 24 = .ok (.iconst 0, 1) := by decide +kernel
theorem dX8_isWord_25 : decode cX8_isWord 25 = .ok (.ireturn, 1) := by decide +kernel
theorem dX8_isWord_26 : decode cX8_isWord 26 = .ok (.iconst 0, 1) := by decide +kernel
theorem dX8_isWord_27 : decode cX8_isWord 27 = .ok (.istore_n 2, 1) := by decide +kernel
theorem dX8_isWord_28 : decode cX8_isWord 28 = .ok (.iload_n 2, 1) := by decide +kernel
theorem dX8_isWord_29 : decode cX8_isWord 29 = .ok (.aload_n 1, 1) := by decide +kernel
theorem dX8_isWord_30 : decode cX8_isWord 30 = .ok (.invokevirtual 130, 3) := by decide +kernel
theorem dX8_isWord_33 : decode cX8_isWord 33 = .ok (.if_icmp .ge 29, 3) := by decide +kernel
theorem dX8_isWord_36 : decode cX8_isWord 36 = .ok (.aload_n 0, 1) := by decide +kernel
theorem dX8_isWord_37 : decode cX8_isWord 37 = .ok (.aload_n 0, 1) := by decide +kernel
theorem dX8_isWord_38 : decode cX8_isWord 38 = .ok (.getfield 42, 3) := by decide +kernel
theorem dX8_isWord_41 : decode cX8_isWord 41 = .ok (.iload_n 2, 1) := by decide +kernel
theorem dX8_isWord_42 : decode cX8_isWord 42 = .ok (.iadd, 1) := by decide +kernel
theorem dX8_isWord_43 : decode cX8_isWord 43 = .ok (.invokevirtual 126, 3) := by decide +kernel
theorem dX8_isWord_46 : decode cX8_isWord 46 = .ok (.aload_n 1, 1) := by decide +kernel
theorem dX8_isWord_47 : decode cX8_isWord 47 = .ok (.iload_n 2, 1) := by decide +kernel
theorem dX8_isWord_48 : decode cX8_isWord 48 = .ok (.invokevirtual 134, 3) := by decide +kernel
theorem dX8_isWord_51 : decode cX8_isWord 51 = .ok (.if_icmp .eq 5, 3) := by decide +kernel
theorem dX8_isWord_54 : decode cX8_isWord 54 = .ok (.iconst 0, 1) := by decide +kernel
theorem dX8_isWord_55 : decode cX8_isWord 55 = .ok (.ireturn, 1) := by decide +kernel
theorem dX8_isWord_56 : decode cX8_isWord 56 = .ok (.iinc 2 1, 3) := by decide +kernel
theorem dX8_isWord_59 : decode cX8_isWord 59 = .ok (.goto (-31), 3) := by decide +kernel
theorem dX8_isWord_62 : decode cX8_isWord 62 = .ok (.iconst 1, 1) := by decide +kernel
theorem dX8_isWord_63 : decode cX8_isWord 63 = .ok (.ireturn, 1) := by decide +kernel
set_option maxRecDepth 20000 in
theorem ggX8_nextToken_X8_characterAt : GoodIn wsX8_nextToken wsX8_characterAt := goodIn_r _ [9, 3, 10, 15, 16, 17, 18, 19] (by decide +kernel) (by decide +kernel)
set_option maxRecDepth 20000 in
theorem gX8_nextToken_X8_characterAt : GoodIn wsX8_nextToken (wsV RX8 126 RX8 yX8_characterAt wsX8_characterAt) := goodIn_app (goodIn_of _ (by decide +kernel)) ggX8_nextToken_X8_characterAt
set_option maxRecDepth 20000 in
theorem ggX8_nextToken_X8_kindAt : GoodIn wsX8_nextToken wsX8_kindAt := goodIn_r _ [14, 3, 5, 6, 7, 8, 9, 10, 15, 16, 17, 18, 19] (by decide +kernel) (by decide +kernel)
set_option maxRecDepth 20000 in
theorem gX8_nextToken_X8_kindAt : GoodIn wsX8_nextToken (wsV RX8 137 RX8 yX8_kindAt wsX8_kindAt) := goodIn_app (goodIn_of _ (by decide +kernel)) ggX8_nextToken_X8_kindAt
theorem dX8_nextToken_0 : decode cX8_nextToken 0 = .ok (.aload_n 0, 1) := by decide +kernel
theorem dX8_nextToken_1 : decode cX8_nextToken 1 = .ok (.aload_n 0, 1) := by decide +kernel
theorem dX8_nextToken_2 : decode cX8_nextToken 2 = .ok (.getfield 29, 3) := by decide +kernel
theorem dX8_nextToken_5 : decode cX8_nextToken 5 = .ok (.putfield 42, 3) := by decide +kernel
theorem dX8_nextToken_8 : decode cX8_nextToken 8 = .ok (.aload_n 0, 1) := by decide +kernel
theorem dX8_nextToken_9 : decode cX8_nextToken 9 = .ok (.getfield 42, 3) := by decide +kernel
theorem dX8_nextToken_12 : decode cX8_nextToken 12 = .ok (.aload_n 0, 1) := by decide +kernel
theorem dX8_nextToken_13 : decode cX8_nextToken 13 = .ok (.getfield 15, 3) := by decide +kernel
theorem dX8_nextToken_16 : decode cX8_nextToken 16 = .ok (.if_icmp .ge 29, 3) := by decide +kernel
theorem dX8_nextToken_19 : decode cX8_nextToken 19 = .ok (.aload_n 0, 1) := by decide +kernel
theorem dX8_nextToken_20 : decode cX8_nextToken 20 = .ok (.aload_n 0, 1) := by decide +kernel
theorem dX8_nextToken_21 : decode cX8_nextToken 21 = .ok (.getfield 42, 3) := by decide +kernel
theorem dX8_nextToken_24 : decode cX8_nextToken 24 = .ok (.invokevirtual 126, 3) := by decide +kernel
theorem dX8_nextToken_27 : decode cX8_nextToken 27 = .ok (.bipush 32, 2) := by decide +kernel
theorem dX8_nextToken_29 : decode cX8_nextToken 29 = .ok (.if_icmp .ne 16, 3) := by decide +kernel
theorem dX8_nextToken_32 : decode cX8_nextToken 32 = .ok (.aload_n 0, 1) := by decide +kernel
theorem dX8_nextToken_33 : decode cX8_nextToken 33 = .ok (.dup, 1) := by decide +kernel
theorem dX8_nextToken_34 : decode cX8_nextToken 34 = .ok (.getfield 42, 3) := by decide +kernel
theorem dX8_nextToken_37 : decode cX8_nextToken 37 = .ok (.iconst 1, 1) := by decide +kernel
theorem dX8_nextToken_38 : decode cX8_nextToken 38 = .ok (.iadd, 1) := by decide +kernel
theorem dX8_nextToken_39 : decode cX8_nextToken 39 = .ok (.putfield 42, 3) := by decide +kernel
theorem dX8_nextToken_42 : decode cX8_nextToken 42 = .ok (.goto (-34), 3) := by decide +kernel
theorem dX8_nextToken_45 : decode cX8_nextToken 45 = .ok (.aload_n 0, 1) := by decide +kernel
theorem dX8_nextToken_46 : decode cX8_nextToken 46 = .ok (.aload_n 0, 1) := by decide +kernel
theorem dX8_nextToken_47 : decode cX8_nextToken 47 = .ok (.getfield 42, 3) := by decide +kernel
theorem dX8_nextToken_50 : decode cX8_nextToken 50 = .ok (.putfield 29, 3) := by decide +kernel
theorem dX8_nextToken_53 : decode cX8_nextToken 53 = .ok (.aload_n 0, 1) := by decide +kernel
theorem dX8_nextToken_54 : decode cX8_nextToken 54 = .ok (.aload_n 0, 1) := by decide +kernel
theorem dX8_nextToken_55 : decode cX8_nextToken 55 = .ok (.aload_n 0, 1) := by decide +kernel
theorem dX8_nextToken_56 : decode cX8_nextToken 56 = .ok (.getfield 42, 3) := by decide +kernel
theorem dX8_nextToken_59 : decode cX8_nextToken 59 = .ok (.invokevirtual 137, 3) := by decide +kernel
theorem dX8_nextToken_62 : decode cX8_nextToken 62 = .ok (.putfield 35, 3) := by decide +kernel
theorem dX8_nextToken_65 : decode cX8_nextToken 65 = .ok (.aload_n 0, 1) := by decide +kernel
theorem dX8_nextToken_66 : decode cX8_nextToken 66 = .ok (.getfield 35, 3) := by decide +kernel
theorem dX8_nextToken_69 : decode cX8_nextToken 69 = .ok (.iconst 1, 1) := by decide +kernel
theorem dX8_nextToken_70 : decode cX8_nextToken 70 = .ok (.if_icmp .eq 11, 3) := by decide +kernel
theorem dX8_nextToken_73 : decode cX8_nextToken 73 = .ok (.aload_n 0, 1) := by decide +kernel
theorem dX8_nextToken_74 : decode cX8_nextToken 74 = .ok (.getfield 35, 3) := by decide +kernel
theorem dX8_nextToken_77 : decode cX8_nextToken 77 = .ok (.iconst 2, 1) := by decide +kernel
theorem dX8_nextToken_78 : decode cX8_nextToken 78 = .ok (.if_icmp .ne 42, 3) := by decide +kernel
theorem dX8_nextToken_81 : decode cX8_nextToken 81 = .ok (.aload_n 0, 1) := by decide +kernel
theorem dX8_nextToken_82 : decode cX8_nextToken 82 = .ok (.getfield 29, 3) := by decide +kernel
theorem dX8_nextToken_85 : decode cX8_nextToken 85 = .ok (.aload_n 0, 1) := by decide +kernel
theorem dX8_nextToken_86 : decode cX8_nextToken 86 = .ok (.getfield 15, 3) := by decide +kernel
theorem dX8_nextToken_89 : decode cX8_nextToken 89 = .ok (.if_icmp .ge 48, 3) := by decide +kernel
theorem dX8_nextToken_92 : decode cX8_nextToken 92 = .ok (.aload_n 0, 1) := by decide +kernel
theorem dX8_nextToken_93 : decode cX8_nextToken 93 = .ok (.aload_n 0, 1) := by decide +kernel
theorem dX8_nextToken_94 : decode cX8_nextToken 94 = .ok (.getfield 29, 3) := by decide +kernel
theorem dX8_nextToken_97 : decode cX8_nextToken 97 = .ok (.invokevirtual 137, 3) := by decide +kernel
theorem dX8_nextToken_100 : decode cX8_nextToken 100 = .ok (.aload_n 0, 1) := by decide +kernel
theorem dX8_nextToken_101 : decode cX8_nextToken 101 = .ok (.getfield 35, 3) := by decide +kernel
theorem dX8_nextToken_104 : decode cX8_nextToken 104 = .ok (.if_icmp .ne 33, 3) := by decide +kernel
theorem dX8_nextToken_107 : decode cX8_nextToken 107 = .ok (.aload_n 0, 1) := by decide +kernel
theorem dX8_nextToken_108 : decode cX8_nextToken 108 = .ok (.dup, 1) := by decide +kernel
theorem dX8_nextToken_109 : decode cX8_nextToken 109 = .ok (.getfield 29, 3) := by decide +kernel
theorem dX8_nextToken_112 : decode cX8_nextToken 112 = .ok (.iconst 1, 1) := by decide +kernel
theorem dX8_nextToken_113 : decode cX8_nextToken 113 = .ok (.iadd, 1) := by decide +kernel
theorem dX8_nextToken_114 : decode cX8_nextToken 114 = .ok (.putfield 29, 3) := by decide +kernel
theorem dX8_nextToken_117 : decode cX8_nextToken 117 = .ok (.goto (-36), 3) := by decide +kernel
theorem dX8_nextToken_120 : decode cX8_nextToken 120 = .ok (.aload_n 0, 1) := by decide +kernel
theorem dX8_nextToken_121 : decode cX8_nextToken 121 = .ok (.getfield 35, 3) := by decide +kernel
theorem dX8_nextToken_124 : decode cX8_nextToken 124 = .ok (.ifCond .eq 13, 3) := by decide +kernel
theorem dX8_nextToken_127 : decode cX8_nextToken 127 = .ok (.aload_n 0, 1) := by decide +kernel
theorem dX8_nextToken_128 : decode cX8_nextToken 128 = .ok (.dup, 1) := by decide +kernel
theorem dX8_nextToken_129 : decode cX8_nextToken 129 = .ok (.getfield 29, 3) := by decide +kernel
theorem dX8_nextToken_132 : decode cX8_nextToken 132 = .ok (.iconst 1, 1) := by decide +kernel
theorem dX8_nextToken_133 : decode cX8_nextToken 133 = .ok (.iadd, 1) := by decide +kernel
theorem dX8_nextToken_134 : decode cX8_nextToken 134 = .ok (.putfield 29, 3) := by decide +kernel
theorem dX8_nextToken_137 : decode cX8_nextToken 137 = .ok (.return_, 1) := by decide +kernel
set_option maxRecDepth 20000 in
theorem ggX8_kindAt_X8_characterAt : GoodIn wsX8_kindAt wsX8_characterAt := goodIn_r _ [6, 1, 7, 8, 9, 10, 11, 12] (by decide +kernel) (by decide +kernel)
set_option maxRecDepth 20000 in
theorem gX8_kindAt_X8_characterAt : GoodIn wsX8_kindAt (wsV RX8 126 RX8 yX8_characterAt wsX8_characterAt) := goodIn_app (goodIn_of _ (by decide +kernel)) ggX8_kindAt_X8_characterAt
theorem dX8_kindAt_0 : decode cX8_kindAt 0 = .ok (.iload_n 1, 1) := by decide +kernel
theorem dX8_kindAt_1 : decode cX8_kindAt 1 = .ok (.aload_n 0, 1) := by decide +kernel
theorem dX8_kindAt_2 : decode cX8_kindAt 2 = .ok (.getfield 15, 3) := by decide +kernel
theorem dX8_kindAt_5 : decode cX8_kindAt 5 = .ok (.if_icmp .lt 5, 3) := by decide +kernel
theorem dX8_kindAt_8 : decode cX8_kindAt 8 = .ok (.iconst 0, 1) := by decide +kernel
theorem dX8_kindAt_9 : decode cX8_kindAt 9 = .ok (.ireturn, 1) := by decide +kernel
theorem dX8_kindAt_10 : decode cX8_kindAt 10 = .ok (.aload_n 0, 1) := by decide +kernel
theorem dX8_kindAt_11 : decode cX8_kindAt 11 = .ok (.iload_n 1, 1) := by decide +kernel
theorem dX8_kindAt_12 : decode cX8_kindAt 12 = .ok (.invokevirtual 126, 3) := by decide +kernel
theorem dX8_kindAt_15 : decode cX8_kindAt 15 = .ok (.istore_n 2, 1) := by decide +kernel
theorem dX8_kindAt_16 : decode cX8_kindAt 16 = .ok (.iload_n 2, 1) := by decide +kernel
theorem dX8_kindAt_17 : decode cX8_kindAt 17 = .ok (.bipush 97, 2) := by decide +kernel
theorem dX8_kindAt_19 : decode cX8_kindAt 19 = .ok (.if_icmp .lt 11, 3) := by decide +kernel
theorem dX8_kindAt_22 : decode cX8_kindAt 22 = .ok (.iload_n 2, 1) := by decide +kernel
theorem dX8_kindAt_23 : decode cX8_kindAt 23 = .ok (.bipush 122, 2) := by decide +kernel
theorem dX8_kindAt_25 : decode cX8_kindAt 25 = .ok (.if_icmp .gt 5, 3) := by decide +kernel
theorem dX8_kindAt_28 : decode cX8_kindAt 28 = .ok (.iconst 1, 1) := by decide +kernel
theorem dX8_kindAt_29 : decode cX8_kindAt 29 = .ok (.ireturn, 1) := by decide +kernel
theorem dX8_kindAt_30 : decode cX8_kindAt 30 = .ok (.iload_n 2, 1) := by decide +kernel
theorem dX8_kindAt_31 : decode cX8_kindAt 31 = .ok (.bipush 48, 2) := by decide +kernel
theorem dX8_kindAt_33 : decode cX8_kindAt 33 = .ok (.if_icmp .lt 11, 3) := by decide +kernel
theorem dX8_kindAt_36 : decode cX8_kindAt 36 = .ok (.iload_n 2, 1) := by decide +kernel
theorem dX8_kindAt_37 : decode cX8_kindAt 37 = .ok (.bipush 57, 2) := by decide +kernel
theorem dX8_kindAt_39 : decode cX8_kindAt 39 = .ok (.if_icmp .gt 5, 3) := by decide +kernel
theorem dX8_kindAt_42 : decode cX8_kindAt 42 = .ok (.iconst 2, 1) := by decide +kernel
theorem dX8_kindAt_43 : decode cX8_kindAt 43 = .ok (.ireturn, 1) := by decide +kernel
theorem dX8_kindAt_44 : decode cX8_kindAt 44 = .ok (.iload_n 2, 1) := by decide +kernel
theorem dX8_kindAt_45 : decode cX8_kindAt 45 = .ok (.bipush 59, 2) := by decide +kernel
theorem dX8_kindAt_47 : decode cX8_kindAt 47 = .ok (.if_icmp .ne 7, 3) := by decide +kernel
theorem dX8_kindAt_50 : decode cX8_kindAt 50 = .ok (.iconst 3, 1) := by decide +kernel
theorem dX8_kindAt_51 : decode cX8_kindAt 51 = .ok (.goto 4, 3) := by decide +kernel
theorem dX8_kindAt_54 : decode cX8_kindAt 54 = .ok (.iconst 4, 1) := by decide +kernel
theorem dX8_kindAt_55 : decode cX8_kindAt 55 = .ok (.ireturn, 1) := by decide +kernel
theorem dX8_characterAt_0 : decode cX8_characterAt 0 = .ok (.iload_n 1, 1) := by decide +kernel
theorem dX8_characterAt_1 : decode cX8_characterAt 1 = .ok (.ifCond .lt 20, 3) := by decide +kernel
theorem dX8_characterAt_4 : decode cX8_characterAt 4 = .ok (.iload_n 1, 1) := by decide +kernel
theorem dX8_characterAt_5 : decode cX8_characterAt 5 = .ok (.aload_n 0, 1) := by decide +kernel
theorem dX8_characterAt_6 : decode cX8_characterAt 6 = .ok (.getfield 15, 3) := by decide +kernel
theorem dX8_characterAt_9 : decode cX8_characterAt 9 = .ok (.if_icmp .ge 12, 3) := by decide +kernel
theorem dX8_characterAt_12 : decode cX8_characterAt 12 = .ok (.aload_n 0, 1) := by decide +kernel
theorem dX8_characterAt_13 : decode cX8_characterAt 13 = .ok (.getfield 9, 3) := by decide +kernel
theorem dX8_characterAt_16 : decode cX8_characterAt 16 = .ok (.iload_n 1, 1) := by decide +kernel
theorem dX8_characterAt_17 : decode cX8_characterAt 17 = .ok (.caload, 1) := by decide +kernel
theorem dX8_characterAt_18 : decode cX8_characterAt 18 = .ok (.goto 5, 3) := by decide +kernel
theorem dX8_characterAt_21 : decode cX8_characterAt 21 = .ok (.bipush 32, 2) := by decide +kernel
theorem dX8_characterAt_23 : decode cX8_characterAt 23 = .ok (.ireturn, 1) := by decide +kernel
set_option maxRecDepth 20000 in
theorem ggX9_init_X7_init : GoodIn wsX9_init wsX7_init := goodIn_r _ [31, 32, 2, 3, 33, 34, 35, 36, 37, 38, 6, 39, 40, 41, 77, 78, 79, 80] (by decide +kernel) (by decide +kernel)
set_option maxRecDepth 20000 in
theorem gX9_init_X7_init : GoodIn wsX9_init (wsX7_init) := ggX9_init_X7_init
set_option maxRecDepth 20000 in
theorem ggX9_init_X5_init : GoodIn wsX9_init wsX5_init := goodIn_r _ [44, 45, 2, 3, 46, 47, 5, 6, 48, 30, 31, 32, 33, 34, 35, 36, 37, 38, 39, 40, 41, 88, 89, 77, 78, 79, 80] (by decide +kernel) (by decide +kernel)
set_option maxRecDepth 20000 in
theorem gX9_init_X5_init : GoodIn wsX9_init (wsX5_init) := ggX9_init_X5_init
