theorem dX10_diameter_8 : decode cX10_diameter 8 = .ok (.ireturn, 1) := by decide +kernel
theorem dX10_diameter_9 : decode cX10_diameter 9 = .ok (.aload_n 0, 1) := by decide +kernel
theorem dX10_diameter_10 : decode cX10_diameter 10 = .ok (.iload_n 1, 1) := by decide +kernel
theorem dX10_diameter_11 : decode cX10_diameter 11 = .ok (.invokevirtual 216, 3) := by decide +kernel
theorem dX10_diameter_14 : decode cX10_diameter 14 = .ok (.iconst 0, 1) := by decide +kernel
theorem dX10_diameter_15 : decode cX10_diameter 15 = .ok (.istore_n 2, 1) := by decide +kernel
theorem dX10_diameter_16 : decode cX10_diameter 16 = .ok (.iconst 0, 1) := by decide +kernel
theorem dX10_diameter_17 : decode cX10_diameter 17 = .ok (.istore_n 3, 1) := by decide +kernel
theorem dX10_diameter_18 : decode cX10_diameter 18 = .ok (.iload_n 3, 1) := by decide +kernel
theorem dX10_diameter_19 : decode cX10_diameter 19 = .ok (.aload_n 0, 1) := by decide +kernel
theorem dX10_diameter_20 : decode cX10_diameter 20 = .ok (.getfield 7, 3) := by decide +kernel
theorem dX10_diameter_23 : decode cX10_diameter 23 = .ok (.iconst 0, 1) := by decide +kernel
theorem dX10_diameter_24 : decode cX10_diameter 24 = .ok (.iaload, 1) := by decide +kernel
theorem dX10_diameter_25 : decode cX10_diameter 25 = .ok (.if_icmp .ge 47, 3) := by decide +kernel
theorem dX10_diameter_28 : decode cX10_diameter 28 = .ok (.aload_n 0, 1) := by decide +kernel
theorem dX10_diameter_29 : decode cX10_diameter 29 = .ok (.iload_n 3, 1) := by decide +kernel
theorem dX10_diameter_30 : decode cX10_diameter 30 = .ok (.invokevirtual 219, 3) := by decide +kernel
theorem dX10_diameter_33 : decode cX10_diameter 33 = .ok (.istore 4, 2) := by decide +kernel
theorem dX10_diameter_35 : decode cX10_diameter 35 = .ok (.iload_n 2, 1) := by decide +kernel
theorem dX10_diameter_36 : decode cX10_diameter 36 = .ok (.bipush (-9), 2) := by decide +kernel
theorem dX10_diameter_38 : decode cX10_diameter 38 = .ok (.if_icmp .eq 10, 3) := by decide +kernel
theorem dX10_diameter_41 : decode cX10_diameter 41 = .ok (.iload 4, 2) := by decide +kernel
theorem dX10_diameter_43 : decode cX10_diameter 43 = .ok (.bipush (-9), 2) := by decide +kernel
theorem dX10_diameter_45 : decode cX10_diameter 45 = .ok (.if_icmp .ne 8, 3) := by decide +kernel
theorem dX10_diameter_48 : decode cX10_diameter 48 = .ok (.bipush (-9), 2) := by decide +kernel
theorem dX10_diameter_50 : decode cX10_diameter 50 = .ok (.goto 15, 3) := by decide +kernel
theorem dX10_diameter_53 : decode cX10_diameter 53 = .ok (.iload 4, 2) := by decide +kernel
theorem dX10_diameter_55 : decode cX10_diameter 55 = .ok (.iload_n 2, 1) := by decide +kernel
theorem dX10_diameter_56 : decode cX10_diameter 56 = .ok (.if_icmp .le 8, 3) := by decide +kernel
theorem dX10_diameter_59 : decode cX10_diameter 59 = .ok (.iload 4, 2) := by decide +kernel
theorem dX10_diameter_61 : decode cX10_diameter 61 = .ok (.goto 4, 3) := by decide +kernel
theorem dX10_diameter_64 : decode cX10_diameter 64 = .ok (.iload_n 2, 1) := by decide +kernel
theorem dX10_diameter_65 : decode cX10_diameter 65 = .ok (.istore_n 2, 1) := by decide +kernel
theorem dX10_diameter_66 : decode cX10_diameter 66 = .ok (.iinc 3 1, 3) := by decide +kernel
theorem dX10_diameter_69 : decode cX10_diameter 69 = .ok (.goto (-51), 3) := by decide +kernel
theorem dX10_diameter_72 : decode cX10_diameter 72 = .ok (.iload_n 2, 1) := by decide +kernel
theorem dX10_diameter_73 : decode cX10_diameter 73 = .ok (.ireturn, 1) := by decide +kernel
set_option maxRecDepth 20000 in
theorem ggX10_center_X10_travels : GoodIn wsX10_center wsX10_travels := goodIn_r _ [6, 7, 8, 9, 10, 11, 5, 12, 13, 14, 15, 16, 1, 17, 18, 19, 20, 21, 22, 23, 24, 29, 30, 31, 32, 33, 34, 35, 36, 37, 38, 39, 40, 41, 42, 43, 44, 45, 46, 47] (by decide +kernel) (by decide +kernel)
set_option maxRecDepth 20000 in
theorem gX10_center_X10_travels : GoodIn wsX10_center (wsV RX10 216 RX10 yX10_travels wsX10_travels) := goodIn_app (goodIn_of _ (by decide +kernel)) ggX10_center_X10_travels
set_option maxRecDepth 20000 in
theorem ggX10_center_X10_farthest : GoodIn wsX10_center wsX10_farthest := goodIn_r _ [28, 1, 7, 29, 30, 31, 32, 33, 34, 35, 36, 37, 38, 39, 40, 41, 42, 43, 44, 45, 46, 47] (by decide +kernel) (by decide +kernel)
set_option maxRecDepth 20000 in
theorem gX10_center_X10_farthest : GoodIn wsX10_center (wsV RX10 219 RX10 yX10_farthest wsX10_farthest) := goodIn_app (goodIn_of _ (by decide +kernel)) ggX10_center_X10_farthest
theorem dX10_center_0 : decode cX10_center 0 = .ok (.aload_n 0, 1) := by decide +kernel
theorem dX10_center_1 : decode cX10_center 1 = .ok (.iconst 0, 1) := by decide +kernel
theorem dX10_center_2 : decode cX10_center 2 = .ok (.invokevirtual 216, 3) := by decide +kernel
theorem dX10_center_5 : decode cX10_center 5 = .ok (.bipush (-9), 2) := by decide +kernel
theorem dX10_center_7 : decode cX10_center 7 = .ok (.istore_n 1, 1) := by decide +kernel
theorem dX10_center_8 : decode cX10_center 8 = .ok (.bipush (-9), 2) := by decide +kernel
theorem dX10_center_10 : decode cX10_center 10 = .ok (.istore_n 2, 1) := by decide +kernel
theorem dX10_center_11 : decode cX10_center 11 = .ok (.iconst 0, 1) := by decide +kernel
theorem dX10_center_12 : decode cX10_center 12 = .ok (.istore_n 3, 1) := by decide +kernel
theorem dX10_center_13 : decode cX10_center 13 = .ok (.iload_n 3, 1) := by decide +kernel
theorem dX10_center_14 : decode cX10_center 14 = .ok (.aload_n 0, 1) := by decide +kernel
theorem dX10_center_15 : decode cX10_center 15 = .ok (.getfield 7, 3) := by decide +kernel
theorem dX10_center_18 : decode cX10_center 18 = .ok (.iconst 0, 1) := by decide +kernel
theorem dX10_center_19 : decode cX10_center 19 = .ok (.iaload, 1) := by decide +kernel
theorem dX10_center_20 : decode cX10_center 20 = .ok (.if_icmp .ge 40, 3) := by decide +kernel
theorem dX10_center_23 : decode cX10_center 23 = .ok (.aload_n 0, 1) := by decide +kernel
theorem dX10_center_24 : decode cX10_center 24 = .ok (.iload_n 3, 1) := by decide +kernel
theorem dX10_center_25 : decode cX10_center 25 = .ok (.invokevirtual 219, 3) := by decide +kernel
theorem dX10_center_28 : decode cX10_center 28 = .ok (.istore 4, 2) := by decide +kernel
theorem dX10_center_30 : decode cX10_center 30 = .ok (.iload 4, 2) := by decide +kernel
theorem dX10_center_32 : decode cX10_center 32 = .ok (.bipush (-9), 2) := by decide +kernel
theorem dX10_center_34 : decode cX10_center 34 = .ok (.if_icmp .eq 20, 3) := by decide +kernel
theorem dX10_center_37 : decode cX10_center 37 = .ok (.iload_n 1, 1) := by decide +kernel
theorem dX10_center_38 : decode cX10_center 38 = .ok (.bipush (-9), 2) := by decide +kernel
theorem dX10_center_40 : decode cX10_center 40 = .ok (.if_icmp .eq 9, 3) := by decide +kernel
theorem dX10_center_43 : decode cX10_center 43 = .ok (.iload 4, 2) := by decide +kernel
theorem dX10_center_45 : decode cX10_center 45 = .ok (.iload_n 2, 1) := by decide +kernel
theorem dX10_center_46 : decode cX10_center 46 = .ok (.if_icmp .ge 8, 3) := by decide +kernel
theorem dX10_center_49 : decode cX10_center 49 = .ok (.iload_n 3, 1) := by decide +kernel
theorem dX10_center_50 : decode cX10_center 50 = .ok (.istore_n 1, 1) := by decide +kernel
theorem dX10_center_51 : decode cX10_center 51 = .ok (.iload 4, 2) := by decide +kernel
theorem dX10_center_53 : decode cX10_center 53 = .ok (.istore_n 2, 1) := by decide +kernel
theorem dX10_center_54 : decode cX10_center 54 = .ok (.iinc 3 1, 3) := by decide +kernel
theorem dX10_center_57 : decode cX10_center 57 = .ok (.goto (-44), 3) := by decide +kernel
theorem dX10_center_60 : decode cX10_center 60 = .ok (.iload_n 1, 1) := by decide +kernel
theorem dX10_center_61 : decode cX10_center 61 = .ok (.ireturn, 1) := by decide +kernel
theorem dX10_newest_0 : decode cX10_newest 0 = .ok (.iload_n 1, 1) := by decide +kernel
theorem dX10_newest_1 : decode cX10_newest 1 = .ok (.istore_n 2, 1) := by decide +kernel
theorem dX10_newest_2 : decode cX10_newest 2 = .ok (.iconst 0, 1) := by decide +kernel
theorem dX10_newest_3 : decode cX10_newest 3 = .ok (.istore_n 3, 1) := by decide +kernel
theorem dX10_newest_4 : decode cX10_newest 4 = .ok (.iload_n 3, 1) := by decide +kernel
theorem dX10_newest_5 : decode cX10_newest 5 = .ok (.aload_n 0, 1) := by decide +kernel
theorem dX10_newest_6 : decode cX10_newest 6 = .ok (.getfield 7, 3) := by decide +kernel
theorem dX10_newest_9 : decode cX10_newest 9 = .ok (.iconst 0, 1) := by decide +kernel
theorem dX10_newest_10 : decode cX10_newest 10 = .ok (.iaload, 1) := by decide +kernel
theorem dX10_newest_11 : decode cX10_newest 11 = .ok (.if_icmp .ge 96, 3) := by decide +kernel
theorem dX10_newest_14 : decode cX10_newest 14 = .ok (.aload_n 0, 1) := by decide +kernel
theorem dX10_newest_15 : decode cX10_newest 15 = .ok (.getfield 22, 3) := by decide +kernel
theorem dX10_newest_18 : decode cX10_newest 18 = .ok (.iload_n 1, 1) := by decide +kernel
theorem dX10_newest_19 : decode cX10_newest 19 = .ok (.iaload, 1) := by decide +kernel
theorem dX10_newest_20 : decode cX10_newest 20 = .ok (.iload_n 3, 1) := by decide +kernel
theorem dX10_newest_21 : decode cX10_newest 21 = .ok (.ishr, 1) := by decide +kernel
theorem dX10_newest_22 : decode cX10_newest 22 = .ok (.iconst 1, 1) := by decide +kernel
theorem dX10_newest_23 : decode cX10_newest 23 = .ok (.iand, 1) := by decide +kernel
theorem dX10_newest_24 : decode cX10_newest 24 = .ok (.iconst 1, 1) := by decide +kernel
theorem dX10_newest_25 : decode cX10_newest 25 = .ok (.if_icmp .ne 7, 3) := by decide +kernel
theorem dX10_newest_28 : decode cX10_newest 28 = .ok (.iconst 1, 1) := by decide +kernel
theorem dX10_newest_29 : decode cX10_newest 29 = .ok (.goto 4, 3) := by decide +kernel
theorem dX10_newest_32 : decode cX10_newest 32 = .ok (.iconst 0, 1) := by decide +kernel
theorem dX10_newest_33 : decode cX10_newest 33 = .ok (.istore 4, 2) := by decide +kernel
theorem dX10_newest_35 : decode cX10_newest 35 = .ok (.iload 4, 2) := by decide +kernel
theorem dX10_newest_37 : decode cX10_newest 37 = .ok (.ifCond .eq 62, 3) := by decide +kernel
theorem dX10_newest_40 : decode cX10_newest 40 = .ok (.aload_n 0, 1) := by decide +kernel
theorem dX10_newest_41 : decode cX10_newest 41 = .ok (.getfield 34, 3) := by decide +kernel
theorem dX10_newest_44 : decode cX10_newest 44 = .ok (.bipush 8, 2) := by decide +kernel
theorem dX10_newest_46 : decode cX10_newest 46 = .ok (.iload_n 1, 1) := by decide +kernel
theorem dX10_newest_47 : decode cX10_newest 47 = .ok (.imul, 1) := by decide +kernel
theorem dX10_newest_48 : decode cX10_newest 48 = .ok (.iload_n 3, 1) := by decide +kernel
theorem dX10_newest_49 : decode cX10_newest 49 = .ok (.iadd, 1) := by decide +kernel
theorem dX10_newest_50 : decode cX10_newest 50 = .ok (.iaload, 1) := by decide +kernel
theorem dX10_newest_51 : decode cX10_newest 51 = .ok (.aload_n 0, 1) := by decide +kernel
theorem dX10_newest_52 : decode cX10_newest 52 = .ok (.getfield 34, 3) := by decide +kernel
theorem dX10_newest_55 : decode cX10_newest 55 = .ok (.bipush 8, 2) := by decide +kernel
theorem dX10_newest_57 : decode cX10_newest 57 = .ok (.iload_n 1, 1) := by decide +kernel
theorem dX10_newest_58 : decode cX10_newest 58 = .ok (.imul, 1) := by decide +kernel
theorem dX10_newest_59 : decode cX10_newest 59 = .ok (.iload_n 2, 1) := by decide +kernel
theorem dX10_newest_60 : decode cX10_newest 60 = .ok (.iadd, 1) := by decide +kernel
theorem dX10_newest_61 : decode cX10_newest 61 = .ok (.iaload, 1) := by decide +kernel
theorem dX10_newest_62 : decode cX10_newest 62 = .ok (.if_icmp .gt 33, 3) := by decide +kernel
theorem dX10_newest_65 : decode cX10_newest 65 = .ok (.aload_n 0, 1) := by decide +kernel
theorem dX10_newest_66 : decode cX10_newest 66 = .ok (.getfield 34, 3) := by decide +kernel
theorem dX10_newest_69 : decode cX10_newest 69 = .ok (.bipush 8, 2) := by decide +kernel
theorem dX10_newest_71 : decode cX10_newest 71 = .ok (.iload_n 1, 1) := by decide +kernel
theorem dX10_newest_72 : decode cX10_newest 72 = .ok (.imul, 1) := by decide +kernel
theorem dX10_newest_73 : decode cX10_newest 73 = .ok (.iload_n 3, 1) := by decide +kernel
theorem dX10_newest_74 : decode cX10_newest 74 = .ok (.iadd, 1) := by decide +kernel
theorem dX10_newest_75 : decode cX10_newest 75 = .ok (.iaload, 1) := by decide +kernel
theorem dX10_newest_76 : decode cX10_newest 76 = .ok (.aload_n 0, 1) := by decide +kernel
theorem dX10_newest_77 : decode cX10_newest 77 = .ok (.getfield 34, 3) := by decide +kernel
theorem dX10_newest_80 : decode cX10_newest 80 = .ok (.bipush 8, 2) := by decide +kernel
theorem dX10_newest_82 : decode cX10_newest 82 = .ok (.iload_n 1, 1) := by decide +kernel
theorem dX10_newest_83 : decode cX10_newest 83 = .ok (.imul, 1) := by decide +kernel
theorem dX10_newest_84 : decode cX10_newest 84 = .ok (.iload_n 2, 1) := by decide +kernel
theorem dX10_newest_85 : decode cX10_newest 85 = .ok (.iadd, 1) := by decide +kernel
theorem dX10_newest_86 : decode cX10_newest 86 = .ok (.iaload, 1) := by decide +kernel
theorem dX10_newest_87 : decode cX10_newest 87 = .ok (.if_icmp .ne 12, 3) := by decide +kernel
theorem dX10_newest_90 : decode cX10_newest 90 = .ok (.iload_n 3, 1) := by decide +kernel
theorem dX10_newest_91 : decode cX10_newest 91 = .ok (.iload_n 2, 1) := by decide +kernel
theorem dX10_newest_92 : decode cX10_newest 92 = .ok (.if_icmp .le 7, 3) := by decide +kernel
theorem dX10_newest_95 : decode cX10_newest 95 = .ok (.iload_n 3, 1) := by decide +kernel
theorem dX10_newest_96 : decode cX10_newest 96 = .ok (.goto 4, 3) := by decide +kernel
theorem dX10_newest_99 : decode cX10_newest 99 = .ok (.iload_n 2, 1) := by decide +kernel
theorem dX10_newest_100 : decode cX10_newest 100 = .ok (.istore_n 2, 1) := by decide +kernel
theorem dX10_newest_101 : decode cX10_newest 101 = .ok (.iinc 3 1, 3) := by decide +kernel
theorem dX10_newest_104 : decode cX10_newest 104 = .ok (.goto (-100), 3) := by decide +kernel
theorem dX10_newest_107 : decode cX10_newest 107 = .ok (.iload_n 2, 1) := by decide +kernel
theorem dX10_newest_108 : decode cX10_newest 108 = .ok (.ireturn, 1) := by decide +kernel
set_option maxRecDepth 20000 in
theorem ggX10_choice_X10_lowest : GoodIn wsX10_choice wsX10_lowest := goodIn_r _ [7] (by decide +kernel) (by decide +kernel)
set_option maxRecDepth 20000 in
theorem gX10_choice_X10_lowest : GoodIn wsX10_choice (va_wsS RX10 94 yX10_lowest wsX10_lowest) := goodIn_app (goodIn_of _ (by decide +kernel)) ggX10_choice_X10_lowest
set_option maxRecDepth 20000 in
theorem ggX10_choice_X10_newest : GoodIn wsX10_choice wsX10_newest := goodIn_r _ [11, 3, 1, 12, 13, 14, 15, 16, 17, 18, 19, 20, 21, 22, 23, 24, 25, 26, 27, 28, 29, 30, 31] (by decide +kernel) (by decide +kernel)
set_option maxRecDepth 20000 in
theorem gX10_choice_X10_newest : GoodIn wsX10_choice (wsV RX10 222 RX10 yX10_newest wsX10_newest) := goodIn_app (goodIn_of _ (by decide +kernel)) ggX10_choice_X10_newest
theorem dX10_choice_0 : decode cX10_choice 0 = .ok (.iload_n 1, 1) := by decide +kernel
theorem dX10_choice_1 : decode cX10_choice 1 = .ok (.ifCond .ne 40, 3) := by decide +kernel
theorem dX10_choice_4 : decode cX10_choice 4 = .ok (.aload_n 0, 1) := by decide +kernel
theorem dX10_choice_5 : decode cX10_choice 5 = .ok (.getfield 22, 3) := by decide +kernel
theorem dX10_choice_8 : decode cX10_choice 8 = .ok (.iload_n 2, 1) := by decide +kernel
theorem dX10_choice_9 : decode cX10_choice 9 = .ok (.iaload, 1) := by decide +kernel
theorem dX10_choice_10 : decode cX10_choice 10 = .ok (.aload_n 0, 1) := by decide +kernel
theorem dX10_choice_11 : decode cX10_choice 11 = .ok (.getfield 31, 3) := by decide +kernel
theorem dX10_choice_14 : decode cX10_choice 14 = .ok (.iload_n 2, 1) := by decide +kernel
theorem dX10_choice_15 : decode cX10_choice 15 = .ok (.iaload, 1) := by decide +kernel
theorem dX10_choice_16 : decode cX10_choice 16 = .ok (.iconst (-1), 1) := by decide +kernel
theorem dX10_choice_17 : decode cX10_choice 17 = .ok (.ixor, 1) := by decide +kernel
theorem dX10_choice_18 : decode cX10_choice 18 = .ok (.iand, 1) := by decide +kernel
theorem dX10_choice_19 : decode cX10_choice 19 = .ok (.istore 4, 2) := by decide +kernel
theorem dX10_choice_21 : decode cX10_choice 21 = .ok (.iload 4, 2) := by decide +kernel
theorem dX10_choice_23 : decode cX10_choice 23 = .ok (.ifCond .ne 12, 3) := by decide +kernel
theorem dX10_choice_26 : decode cX10_choice 26 = .ok (.aload_n 0, 1) := by decide +kernel
theorem dX10_choice_27 : decode cX10_choice 27 = .ok (.getfield 22, 3) := by decide +kernel
theorem dX10_choice_30 : decode cX10_choice 30 = .ok (.iload_n 2, 1) := by decide +kernel
theorem dX10_choice_31 : decode cX10_choice 31 = .ok (.iaload, 1) := by decide +kernel
theorem dX10_choice_32 : decode cX10_choice 32 = .ok (.goto 5, 3) := by decide +kernel
theorem dX10_choice_35 : decode cX10_choice 35 = .ok (.iload 4, 2) := by decide +kernel
theorem dX10_choice_37 : decode cX10_choice 37 = .ok (.invokestatic 94, 3) := by decide +kernel
theorem dX10_choice_40 : decode cX10_choice 40 = .ok (.ireturn, 1) := by decide +kernel
theorem dX10_choice_41 : decode cX10_choice 41 = .ok (.iload_n 1, 1) := by decide +kernel
theorem dX10_choice_42 : decode cX10_choice 42 = .ok (.iconst 1, 1) := by decide +kernel
theorem dX10_choice_43 : decode cX10_choice 43 = .ok (.if_icmp .ne 9, 3) := by decide +kernel
theorem dX10_choice_46 : decode cX10_choice 46 = .ok (.aload_n 0, 1) := by decide +kernel
theorem dX10_choice_47 : decode cX10_choice 47 = .ok (.iload_n 2, 1) := by decide +kernel
theorem dX10_choice_48 : decode cX10_choice 48 = .ok (.invokevirtual 222, 3) := by decide +kernel
theorem dX10_choice_51 : decode cX10_choice 51 = .ok (.ireturn, 1) := by decide +kernel
theorem dX10_choice_52 : decode cX10_choice 52 = .ok (.iload_n 3, 1) := by decide +kernel
theorem dX10_choice_53 : decode cX10_choice 53 = .ok (.aload_n 0, 1) := by decide +kernel
theorem dX10_choice_54 : decode cX10_choice 54 = .ok (.getfield 7, 3) := by decide +kernel
theorem dX10_choice_57 : decode cX10_choice 57 = .ok (.iconst 0, 1) := by decide +kernel
theorem dX10_choice_58 : decode cX10_choice 58 = .ok (.iaload, 1) := by decide +kernel
theorem dX10_choice_59 : decode cX10_choice 59 = .ok (.irem, 1) := by decide +kernel
theorem dX10_choice_60 : decode cX10_choice 60 = .ok (.istore 4, 2) := by decide +kernel
theorem dX10_choice_62 : decode cX10_choice 62 = .ok (.aload_n 0, 1) := by decide +kernel
theorem dX10_choice_63 : decode cX10_choice 63 = .ok (.getfield 22, 3) := by decide +kernel
theorem dX10_choice_66 : decode cX10_choice 66 = .ok (.iload_n 2, 1) := by decide +kernel
theorem dX10_choice_67 : decode cX10_choice 67 = .ok (.iaload, 1) := by decide +kernel
theorem dX10_choice_68 : decode cX10_choice 68 = .ok (.iload 4, 2) := by decide +kernel
theorem dX10_choice_70 : decode cX10_choice 70 = .ok (.ishr, 1) := by decide +kernel
theorem dX10_choice_71 : decode cX10_choice 71 = .ok (.iconst 1, 1) := by decide +kernel
theorem dX10_choice_72 : decode cX10_choice 72 = .ok (.iand, 1) := by decide +kernel
theorem dX10_choice_73 : decode cX10_choice 73 = .ok (.iconst 1, 1) := by decide +kernel
theorem dX10_choice_74 : decode cX10_choice 74 = .ok (.if_icmp .ne 8, 3) := by decide +kernel
theorem dX10_choice_77 : decode cX10_choice 77 = .ok (.iload 4, 2) := by decide +kernel
theorem dX10_choice_79 : decode cX10_choice 79 = .ok (.goto 4, 3) := by decide +kernel
theorem dX10_choice_82 : decode cX10_choice 82 = .ok (.iload_n 2, 1) := by decide +kernel
theorem dX10_choice_83 : decode cX10_choice 83 = .ok (.ireturn, 1) := by decide +kernel
set_option maxRecDepth 20000 in
theorem ggX10_talks_X10_edgesAt : GoodIn wsX10_talks wsX10_edgesAt := goodIn_r _ [10, 1, 25, 26, 27, 28, 29, 30, 31, 32, 33, 34, 35, 36, 37, 38, 39, 40, 41, 42, 43] (by decide +kernel) (by decide +kernel)
set_option maxRecDepth 20000 in
theorem gX10_talks_X10_edgesAt : GoodIn wsX10_talks (wsV RX10 204 RX10 yX10_edgesAt wsX10_edgesAt) := goodIn_app (goodIn_of _ (by decide +kernel)) ggX10_talks_X10_edgesAt
set_option maxRecDepth 20000 in
theorem ggX10_talks_X10_choice : GoodIn wsX10_talks wsX10_choice := goodIn_r _ [14, 4, 3, 1, 15, 16, 9, 17, 18, 19, 20, 21, 5, 25, 26, 27, 28, 29, 30, 31, 32, 33, 34, 35, 36, 37, 38, 39, 40, 41, 42, 43] (by decide +kernel) (by decide +kernel)
set_option maxRecDepth 20000 in
theorem gX10_talks_X10_choice : GoodIn wsX10_talks (wsV RX10 225 RX10 yX10_choice wsX10_choice) := goodIn_app (goodIn_of _ (by decide +kernel)) ggX10_talks_X10_choice
set_option maxRecDepth 20000 in
theorem ggX10_talks_X10_pair : GoodIn wsX10_talks wsX10_pair := goodIn_r _ [24] (by decide +kernel) (by decide +kernel)
set_option maxRecDepth 20000 in
theorem gX10_talks_X10_pair : GoodIn wsX10_talks (va_wsS RX10 76 yX10_pair wsX10_pair) := goodIn_app (goodIn_of _ (by decide +kernel)) ggX10_talks_X10_pair
theorem dX10_talks_0 : decode cX10_talks 0 = .ok (.aload_n 0, 1) := by decide +kernel
theorem dX10_talks_1 : decode cX10_talks 1 = .ok (.iload_n 2, 1) := by decide +kernel
theorem dX10_talks_2 : decode cX10_talks 2 = .ok (.invokevirtual 204, 3) := by decide +kernel
theorem dX10_talks_5 : decode cX10_talks 5 = .ok (.istore_n 3, 1) := by decide +kernel
theorem dX10_talks_6 : decode cX10_talks 6 = .ok (.iconst 0, 1) := by decide +kernel
theorem dX10_talks_7 : decode cX10_talks 7 = .ok (.istore 4, 2) := by decide +kernel
theorem dX10_talks_9 : decode cX10_talks 9 = .ok (.iload 4, 2) := by decide +kernel
theorem dX10_talks_11 : decode cX10_talks 11 = .ok (.aload_n 0, 1) := by decide +kernel
theorem dX10_talks_12 : decode cX10_talks 12 = .ok (.getfield 7, 3) := by decide +kernel
theorem dX10_talks_15 : decode cX10_talks 15 = .ok (.iconst 0, 1) := by decide +kernel
theorem dX10_talks_16 : decode cX10_talks 16 = .ok (.iaload, 1) := by decide +kernel
theorem dX10_talks_17 : decode cX10_talks 17 = .ok (.if_icmp .ge 43, 3) := by decide +kernel
theorem dX10_talks_20 : decode cX10_talks 20 = .ok (.aload_n 0, 1) := by decide +kernel
theorem dX10_talks_21 : decode cX10_talks 21 = .ok (.getfield 37, 3) := by decide +kernel
theorem dX10_talks_24 : decode cX10_talks 24 = .ok (.iload 4, 2) := by decide +kernel
theorem dX10_talks_26 : decode cX10_talks 26 = .ok (.aload_n 0, 1) := by decide +kernel
theorem dX10_talks_27 : decode cX10_talks 27 = .ok (.iload_n 1, 1) := by decide +kernel
theorem dX10_talks_28 : decode cX10_talks 28 = .ok (.iload 4, 2) := by decide +kernel
theorem dX10_talks_30 : decode cX10_talks 30 = .ok (.iload_n 2, 1) := by decide +kernel
theorem dX10_talks_31 : decode cX10_talks 31 = .ok (.invokevirtual 225, 3) := by decide +kernel
theorem dX10_talks_34 : decode cX10_talks 34 = .ok (.iastore, 1) := by decide +kernel
theorem dX10_talks_35 : decode cX10_talks 35 = .ok (.aload_n 0, 1) := by decide +kernel
theorem dX10_talks_36 : decode cX10_talks 36 = .ok (.getfield 31, 3) := by decide +kernel
theorem dX10_talks_39 : decode cX10_talks 39 = .ok (.iload 4, 2) := by decide +kernel
theorem dX10_talks_41 : decode cX10_talks 41 = .ok (.dup2, 1) := by decide +kernel
theorem dX10_talks_42 : decode cX10_talks 42 = .ok (.iaload, 1) := by decide +kernel
theorem dX10_talks_43 : decode cX10_talks 43 = .ok (.iconst 1, 1) := by decide +kernel
theorem dX10_talks_44 : decode cX10_talks 44 = .ok (.aload_n 0, 1) := by decide +kernel
theorem dX10_talks_45 : decode cX10_talks 45 = .ok (.getfield 37, 3) := by decide +kernel
theorem dX10_talks_48 : decode cX10_talks 48 = .ok (.iload 4, 2) := by decide +kernel
theorem dX10_talks_50 : decode cX10_talks 50 = .ok (.iaload, 1) := by decide +kernel
theorem dX10_talks_51 : decode cX10_talks 51 = .ok (.ishl, 1) := by decide +kernel
theorem dX10_talks_52 : decode cX10_talks 52 = .ok (.ior, 1) := by decide +kernel
theorem dX10_talks_53 : decode cX10_talks 53 = .ok (.iastore, 1) := by decide +kernel
theorem dX10_talks_54 : decode cX10_talks 54 = .ok (.iinc 4 1, 3) := by decide +kernel
theorem dX10_talks_57 : decode cX10_talks 57 = .ok (.goto (-48), 3) := by decide +kernel
theorem dX10_talks_60 : decode cX10_talks 60 = .ok (.iconst 0, 1) := by decide +kernel
theorem dX10_talks_61 : decode cX10_talks 61 = .ok (.istore 4, 2) := by decide +kernel
theorem dX10_talks_63 : decode cX10_talks 63 = .ok (.iload 4, 2) := by decide +kernel
theorem dX10_talks_65 : decode cX10_talks 65 = .ok (.aload_n 0, 1) := by decide +kernel
theorem dX10_talks_66 : decode cX10_talks 66 = .ok (.getfield 7, 3) := by decide +kernel
theorem dX10_talks_69 : decode cX10_talks 69 = .ok (.iconst 0, 1) := by decide +kernel
theorem dX10_talks_70 : decode cX10_talks 70 = .ok (.iaload, 1) := by decide +kernel
theorem dX10_talks_71 : decode cX10_talks 71 = .ok (.if_icmp .ge 106, 3) := by decide +kernel
theorem dX10_talks_74 : decode cX10_talks 74 = .ok (.iconst 0, 1) := by decide +kernel
theorem dX10_talks_75 : decode cX10_talks 75 = .ok (.istore 5, 2) := by decide +kernel
theorem dX10_talks_77 : decode cX10_talks 77 = .ok (.iload 5, 2) := by decide +kernel
theorem dX10_talks_79 : decode cX10_talks 79 = .ok (.aload_n 0, 1) := by decide +kernel
theorem dX10_talks_80 : decode cX10_talks 80 = .ok (.getfield 7, 3) := by decide +kernel
theorem dX10_talks_83 : decode cX10_talks 83 = .ok (.iconst 0, 1) := by decide +kernel
theorem dX10_talks_84 : decode cX10_talks 84 = .ok (.iaload, 1) := by decide +kernel
theorem dX10_talks_85 : decode cX10_talks 85 = .ok (.if_icmp .ge 86, 3) := by decide +kernel
theorem dX10_talks_88 : decode cX10_talks 88 = .ok (.iload 4, 2) := by decide +kernel
theorem dX10_talks_90 : decode cX10_talks 90 = .ok (.iload 5, 2) := by decide +kernel
theorem dX10_talks_92 : decode cX10_talks 92 = .ok (.if_icmp .eq 73, 3) := by decide +kernel
theorem dX10_talks_95 : decode cX10_talks 95 = .ok (.iload_n 3, 1) := by decide +kernel
theorem dX10_talks_96 : decode cX10_talks 96 = .ok (.iload 4, 2) := by decide +kernel
theorem dX10_talks_98 : decode cX10_talks 98 = .ok (.iload 5, 2) := by decide +kernel
theorem dX10_talks_100 : decode cX10_talks 100 = .ok (.invokestatic 76, 3) := by decide +kernel
theorem dX10_talks_103 : decode cX10_talks 103 = .ok (.iand, 1) := by decide +kernel
theorem dX10_talks_104 : decode cX10_talks 104 = .ok (.ifCond .eq 61, 3) := by decide +kernel
theorem dX10_talks_107 : decode cX10_talks 107 = .ok (.aload_n 0, 1) := by decide +kernel
theorem dX10_talks_108 : decode cX10_talks 108 = .ok (.getfield 22, 3) := by decide +kernel
theorem dX10_talks_111 : decode cX10_talks 111 = .ok (.iload 5, 2) := by decide +kernel
theorem dX10_talks_113 : decode cX10_talks 113 = .ok (.iaload, 1) := by decide +kernel
theorem dX10_talks_114 : decode cX10_talks 114 = .ok (.aload_n 0, 1) := by decide +kernel
theorem dX10_talks_115 : decode cX10_talks 115 = .ok (.getfield 37, 3) := by decide +kernel
theorem dX10_talks_118 : decode cX10_talks 118 = .ok (.iload 4, 2) := by decide +kernel
theorem dX10_talks_120 : decode cX10_talks 120 = .ok (.iaload, 1) := by decide +kernel
theorem dX10_talks_121 : decode cX10_talks 121 = .ok (.ishr, 1) := by decide +kernel
theorem dX10_talks_122 : decode cX10_talks 122 = .ok (.iconst 1, 1) := by decide +kernel
theorem dX10_talks_123 : decode cX10_talks 123 = .ok (.iand, 1) := by decide +kernel
theorem dX10_talks_124 : decode cX10_talks 124 = .ok (.ifCond .ne 41, 3) := by decide +kernel
theorem dX10_talks_127 : decode cX10_talks 127 = .ok (.aload_n 0, 1) := by decide +kernel
theorem dX10_talks_128 : decode cX10_talks 128 = .ok (.getfield 22, 3) := by decide +kernel
theorem dX10_talks_131 : decode cX10_talks 131 = .ok (.iload 5, 2) := by decide +kernel
theorem dX10_talks_133 : decode cX10_talks 133 = .ok (.dup2, 1) := by decide +kernel
theorem dX10_talks_134 : decode cX10_talks 134 = .ok (.iaload, 1) := by decide +kernel
theorem dX10_talks_135 : decode cX10_talks 135 = .ok (.iconst 1, 1) := by decide +kernel
theorem dX10_talks_136 : decode cX10_talks 136 = .ok (.aload_n 0, 1) := by decide +kernel
theorem dX10_talks_137 : decode cX10_talks 137 = .ok (.getfield 37, 3) := by decide +kernel
theorem dX10_talks_140 : decode cX10_talks 140 = .ok (.iload 4, 2) := by decide +kernel
theorem dX10_talks_142 : decode cX10_talks 142 = .ok (.iaload, 1) := by decide +kernel
theorem dX10_talks_143 : decode cX10_talks 143 = .ok (.ishl, 1) := by decide +kernel
theorem dX10_talks_144 : decode cX10_talks 144 = .ok (.ior, 1) := by decide +kernel
theorem dX10_talks_145 : decode cX10_talks 145 = .ok (.iastore, 1) := by decide +kernel
theorem dX10_talks_146 : decode cX10_talks 146 = .ok (.aload_n 0, 1) := by decide +kernel
theorem dX10_talks_147 : decode cX10_talks 147 = .ok (.getfield 34, 3) := by decide +kernel
theorem dX10_talks_150 : decode cX10_talks 150 = .ok (.bipush 8, 2) := by decide +kernel
theorem dX10_talks_152 : decode cX10_talks 152 = .ok (.iload 5, 2) := by decide +kernel
theorem dX10_talks_154 : decode cX10_talks 154 = .ok (.imul, 1) := by decide +kernel
theorem dX10_talks_155 : decode cX10_talks 155 = .ok (.aload_n 0, 1) := by decide +kernel
theorem dX10_talks_156 : decode cX10_talks 156 = .ok (.getfield 37, 3) := by decide +kernel
theorem dX10_talks_159 : decode cX10_talks 159 = .ok (.iload 4, 2) := by decide +kernel
theorem dX10_talks_161 : decode cX10_talks 161 = .ok (.iaload, 1) := by decide +kernel
theorem dX10_talks_162 : decode cX10_talks 162 = .ok (.iadd, 1) := by decide +kernel
theorem dX10_talks_163 : decode cX10_talks 163 = .ok (.iload_n 2, 1) := by decide +kernel
theorem dX10_talks_164 : decode cX10_talks 164 = .ok (.iastore, 1) := by decide +kernel
theorem dX10_talks_165 : decode cX10_talks 165 = .ok (.iinc 5 1, 3) := by decide +kernel
theorem dX10_talks_168 : decode cX10_talks 168 = .ok (.goto (-91), 3) := by decide +kernel
theorem dX10_talks_171 : decode cX10_talks 171 = .ok (.iinc 4 1, 3) := by decide +kernel
theorem dX10_talks_174 : decode cX10_talks 174 = .ok (.goto (-111), 3) := by decide +kernel
theorem dX10_talks_177 : decode cX10_talks 177 = .ok (.return_, 1) := by decide +kernel
set_option maxRecDepth 20000 in
theorem ggX10_starts_X10_alone : GoodIn wsX10_starts wsX10_alone := goodIn_r _ [7, 8, 9, 10, 11, 12, 13, 14, 15, 16, 17, 18, 19, 20, 21, 22, 23, 24, 25, 26, 27] (by decide +kernel) (by decide +kernel)
set_option maxRecDepth 20000 in
theorem gX10_starts_X10_alone : GoodIn wsX10_starts (wsV RX10 207 RX10 yX10_alone wsX10_alone) := goodIn_app (goodIn_of _ (by decide +kernel)) ggX10_starts_X10_alone
theorem dX10_starts_0 : decode cX10_starts 0 = .ok (.aload_n 0, 1) := by decide +kernel
theorem dX10_starts_1 : decode cX10_starts 1 = .ok (.invokevirtual 207, 3) := by decide +kernel
theorem dX10_starts_4 : decode cX10_starts 4 = .ok (.iconst 0, 1) := by decide +kernel
theorem dX10_starts_5 : decode cX10_starts 5 = .ok (.istore_n 1, 1) := by decide +kernel
theorem dX10_starts_6 : decode cX10_starts 6 = .ok (.iload_n 1, 1) := by decide +kernel
theorem dX10_starts_7 : decode cX10_starts 7 = .ok (.bipush 8, 2) := by decide +kernel
theorem dX10_starts_9 : decode cX10_starts 9 = .ok (.if_icmp .ge 26, 3) := by decide +kernel
theorem dX10_starts_12 : decode cX10_starts 12 = .ok (.aload_n 0, 1) := by decide +kernel
theorem dX10_starts_13 : decode cX10_starts 13 = .ok (.getfield 31, 3) := by decide +kernel
theorem dX10_starts_16 : decode cX10_starts 16 = .ok (.iload_n 1, 1) := by decide +kernel
theorem dX10_starts_17 : decode cX10_starts 17 = .ok (.iconst 0, 1) := by decide +kernel
theorem dX10_starts_18 : decode cX10_starts 18 = .ok (.iastore, 1) := by decide +kernel
theorem dX10_starts_19 : decode cX10_starts 19 = .ok (.aload_n 0, 1) := by decide +kernel
theorem dX10_starts_20 : decode cX10_starts 20 = .ok (.getfield 34, 3) := by decide +kernel
theorem dX10_starts_23 : decode cX10_starts 23 = .ok (.bipush 9, 2) := by decide +kernel
theorem dX10_starts_25 : decode cX10_starts 25 = .ok (.iload_n 1, 1) := by decide +kernel
theorem dX10_starts_26 : decode cX10_starts 26 = .ok (.imul, 1) := by decide +kernel
theorem dX10_starts_27 : decode cX10_starts 27 = .ok (.iconst (-1), 1) := by decide +kernel
theorem dX10_starts_28 : decode cX10_starts 28 = .ok (.iastore, 1) := by decide +kernel
theorem dX10_starts_29 : decode cX10_starts 29 = .ok (.iinc 1 1, 3) := by decide +kernel
theorem dX10_starts_32 : decode cX10_starts 32 = .ok (.goto (-26), 3) := by decide +kernel
theorem dX10_starts_35 : decode cX10_starts 35 = .ok (.return_, 1) := by decide +kernel
set_option maxRecDepth 20000 in
theorem ggX10_allKnow_X10_all : GoodIn wsX10_allKnow wsX10_all := goodIn_r _ [7, 1, 8, 9, 10, 11, 12, 13, 14, 15, 16, 17, 18, 19, 20, 21, 22, 23, 24, 25, 26] (by decide +kernel) (by decide +kernel)
set_option maxRecDepth 20000 in
theorem gX10_allKnow_X10_all : GoodIn wsX10_allKnow (wsV RX10 87 RX10 yX10_all wsX10_all) := goodIn_app (goodIn_of _ (by decide +kernel)) ggX10_allKnow_X10_all
theorem dX10_allKnow_0 : decode cX10_allKnow 0 = .ok (.iconst 1, 1) := by decide +kernel
theorem dX10_allKnow_1 : decode cX10_allKnow 1 = .ok (.istore_n 1, 1) := by decide +kernel
theorem dX10_allKnow_2 : decode cX10_allKnow 2 = .ok (.iconst 0, 1) := by decide +kernel
theorem dX10_allKnow_3 : decode cX10_allKnow 3 = .ok (.istore_n 2, 1) := by decide +kernel
theorem dX10_allKnow_4 : decode cX10_allKnow 4 = .ok (.iload_n 2, 1) := by decide +kernel
theorem dX10_allKnow_5 : decode cX10_allKnow 5 = .ok (.aload_n 0, 1) := by decide +kernel
theorem dX10_allKnow_6 : decode cX10_allKnow 6 = .ok (.getfield 7, 3) := by decide +kernel
theorem dX10_allKnow_9 : decode cX10_allKnow 9 = .ok (.iconst 0, 1) := by decide +kernel
theorem dX10_allKnow_10 : decode cX10_allKnow 10 = .ok (.iaload, 1) := by decide +kernel
theorem dX10_allKnow_11 : decode cX10_allKnow 11 = .ok (.if_icmp .ge 32, 3) := by decide +kernel
theorem dX10_allKnow_14 : decode cX10_allKnow 14 = .ok (.iload_n 1, 1) := by decide +kernel
theorem dX10_allKnow_15 : decode cX10_allKnow 15 = .ok (.ifCond .eq 20, 3) := by decide +kernel
theorem dX10_allKnow_18 : decode cX10_allKnow 18 = .ok (.aload_n 0, 1) := by decide +kernel
theorem dX10_allKnow_19 : decode cX10_allKnow 19 = .ok (.getfield 22, 3) := by decide +kernel
theorem dX10_allKnow_22 : decode cX10_allKnow 22 = .ok (.iload_n 2, 1) := by decide +kernel
theorem dX10_allKnow_23 : decode cX10_allKnow 23 = .ok (.iaload, 1) := by decide +kernel
theorem dX10_allKnow_24 : decode cX10_allKnow 24 = .ok (.aload_n 0, 1) := by decide +kernel
theorem dX10_allKnow_25 : decode cX10_allKnow 25 = .ok (.invokevirtual 87, 3) := by decide +kernel
theorem dX10_allKnow_28 : decode cX10_allKnow 28 = .ok (.if_icmp .ne 7, 3) := by decide +kernel
theorem dX10_allKnow_31 : decode cX10_allKnow 31 = .ok (.iconst 1, 1) := by decide +kernel
theorem dX10_allKnow_32 : decode cX10_allKnow 32 = .ok (.goto 4, 3) := by decide +kernel
theorem dX10_allKnow_35 : decode cX10_allKnow 35 = .ok (.iconst 0, 1) := by decide +kernel
theorem dX10_allKnow_36 : decode cX10_allKnow 36 = .ok (.istore_n 1, 1) := by decide +kernel
theorem dX10_allKnow_37 : decode cX10_allKnow 37 = .ok (.iinc 2 1, 3) := by decide +kernel
theorem dX10_allKnow_40 : decode cX10_allKnow 40 = .ok (.goto (-36), 3) := by decide +kernel
theorem dX10_allKnow_43 : decode cX10_allKnow 43 = .ok (.iload_n 1, 1) := by decide +kernel
theorem dX10_allKnow_44 : decode cX10_allKnow 44 = .ok (.ireturn, 1) := by decide +kernel
set_option maxRecDepth 20000 in
theorem ggX10_gossip_X10_in : GoodIn wsX10_gossip wsX10_in := goodIn_r _ [5] (by decide +kernel) (by decide +kernel)
set_option maxRecDepth 20000 in
theorem gX10_gossip_X10_in : GoodIn wsX10_gossip (va_wsS RX10 51 yX10_in wsX10_in) := goodIn_app (goodIn_of _ (by decide +kernel)) ggX10_gossip_X10_in
set_option maxRecDepth 20000 in
theorem ggX10_gossip_X10_isNode : GoodIn wsX10_gossip wsX10_isNode := goodIn_r _ [9, 10, 2, 3, 4, 5, 47, 48, 49, 50, 51, 52, 53, 54, 55, 56, 57, 58, 59, 60, 61, 62, 63, 64, 65] (by decide +kernel) (by decide +kernel)
set_option maxRecDepth 20000 in
theorem gX10_gossip_X10_isNode : GoodIn wsX10_gossip (wsV RX10 55 RX10 yX10_isNode wsX10_isNode) := goodIn_app (goodIn_of _ (by decide +kernel)) ggX10_gossip_X10_isNode
set_option maxRecDepth 20000 in
theorem ggX10_gossip_X10_isTime : GoodIn wsX10_gossip wsX10_isTime := goodIn_r _ [13, 2, 3, 4, 5] (by decide +kernel) (by decide +kernel)
set_option maxRecDepth 20000 in
theorem gX10_gossip_X10_isTime : GoodIn wsX10_gossip (va_wsS RX10 213 yX10_isTime wsX10_isTime) := goodIn_app (goodIn_of _ (by decide +kernel)) ggX10_gossip_X10_isTime
set_option maxRecDepth 20000 in
theorem ggX10_gossip_X10_starts : GoodIn wsX10_gossip wsX10_starts := goodIn_r _ [17, 18, 19, 20, 21, 22, 4, 23, 1, 47, 48, 49, 50, 51, 52, 53, 54, 55, 56, 57, 58, 59, 60, 61, 62, 63, 64, 65] (by decide +kernel) (by decide +kernel)
set_option maxRecDepth 20000 in
theorem gX10_gossip_X10_starts : GoodIn wsX10_gossip (wsV RX10 229 RX10 yX10_starts wsX10_starts) := goodIn_app (goodIn_of _ (by decide +kernel)) ggX10_gossip_X10_starts
set_option maxRecDepth 20000 in
theorem ggX10_gossip_X10_talks : GoodIn wsX10_gossip wsX10_talks := goodIn_r _ [27, 10, 28, 18, 1, 19, 29, 30, 31, 4, 32, 33, 34, 35, 36, 37, 38, 39, 40, 41, 42, 43, 44, 45, 46, 47, 48, 49, 50, 51, 52, 53, 54, 55, 56, 57, 58, 59, 60, 61, 62, 63, 64, 65] (by decide +kernel) (by decide +kernel)
set_option maxRecDepth 20000 in
theorem gX10_gossip_X10_talks : GoodIn wsX10_gossip (wsV RX10 232 RX10 yX10_talks wsX10_talks) := goodIn_app (goodIn_of _ (by decide +kernel)) ggX10_gossip_X10_talks
theorem dX10_gossip_0 : decode cX10_gossip 0 = .ok (.iload_n 1, 1) := by decide +kernel
theorem dX10_gossip_1 : decode cX10_gossip 1 = .ok (.iconst 0, 1) := by decide +kernel
theorem dX10_gossip_2 : decode cX10_gossip 2 = .ok (.iconst 2, 1) := by decide +kernel
theorem dX10_gossip_3 : decode cX10_gossip 3 = .ok (.invokestatic 51, 3) := by decide +kernel
theorem dX10_gossip_6 : decode cX10_gossip 6 = .ok (.ifCond .eq 18, 3) := by decide +kernel
theorem dX10_gossip_9 : decode cX10_gossip 9 = .ok (.aload_n 0, 1) := by decide +kernel
theorem dX10_gossip_10 : decode cX10_gossip 10 = .ok (.iload_n 2, 1) := by decide +kernel
theorem dX10_gossip_11 : decode cX10_gossip 11 = .ok (.invokevirtual 55, 3) := by decide +kernel
theorem dX10_gossip_14 : decode cX10_gossip 14 = .ok (.ifCond .eq 10, 3) := by decide +kernel
theorem dX10_gossip_17 : decode cX10_gossip 17 = .ok (.iload_n 3, 1) := by decide +kernel
theorem dX10_gossip_18 : decode cX10_gossip 18 = .ok (.invokestatic 213, 3) := by decide +kernel
theorem dX10_gossip_21 : decode cX10_gossip 21 = .ok (.ifCond .ne 5, 3) := by decide +kernel
theorem dX10_gossip_24 : decode cX10_gossip 24 = .ok (.iconst (-1), 1) := by decide +kernel
theorem dX10_gossip_25 : decode cX10_gossip 25 = .ok (.ireturn, 1) := by decide +kernel
theorem dX10_gossip_26 : decode cX10_gossip 26 = .ok (.aload_n 0, 1) := by decide +kernel
theorem dX10_gossip_27 : decode cX10_gossip 27 = .ok (.invokevirtual 229, 3) := by decide +kernel
theorem dX10_gossip_30 : decode cX10_gossip 30 = .ok (.iconst 0, 1) := by decide +kernel
theorem dX10_gossip_31 : decode cX10_gossip 31 = .ok (.istore 4, 2) := by decide +kernel
theorem dX10_gossip_33 : decode cX10_gossip 33 = .ok (.iload 4, 2) := by decide +kernel
theorem dX10_gossip_35 : decode cX10_gossip 35 = .ok (.iload_n 3, 1) := by decide +kernel
theorem dX10_gossip_36 : decode cX10_gossip 36 = .ok (.if_icmp .ge 16, 3) := by decide +kernel
theorem dX10_gossip_39 : decode cX10_gossip 39 = .ok (.aload_n 0, 1) := by decide +kernel
theorem dX10_gossip_40 : decode cX10_gossip 40 = .ok (.iload_n 1, 1) := by decide +kernel
theorem dX10_gossip_41 : decode cX10_gossip 41 = .ok (.iload 4, 2) := by decide +kernel
theorem dX10_gossip_43 : decode cX10_gossip 43 = .ok (.invokevirtual 232, 3) := by decide +kernel
theorem dX10_gossip_46 : decode cX10_gossip 46 = .ok (.iinc 4 1, 3) := by decide +kernel
theorem dX10_gossip_49 : decode cX10_gossip 49 = .ok (.goto (-16), 3) := by decide +kernel
theorem dX10_gossip_52 : decode cX10_gossip 52 = .ok (.aload_n 0, 1) := by decide +kernel
theorem dX10_gossip_53 : decode cX10_gossip 53 = .ok (.getfield 22, 3) := by decide +kernel
theorem dX10_gossip_56 : decode cX10_gossip 56 = .ok (.iload_n 2, 1) := by decide +kernel
theorem dX10_gossip_57 : decode cX10_gossip 57 = .ok (.iaload, 1) := by decide +kernel
theorem dX10_gossip_58 : decode cX10_gossip 58 = .ok (.ireturn, 1) := by decide +kernel
set_option maxRecDepth 20000 in
theorem ggX10_gossipTime_X10_in : GoodIn wsX10_gossipTime wsX10_in := goodIn_r _ [4] (by decide +kernel) (by decide +kernel)
set_option maxRecDepth 20000 in
theorem gX10_gossipTime_X10_in : GoodIn wsX10_gossipTime (va_wsS RX10 51 yX10_in wsX10_in) := goodIn_app (goodIn_of _ (by decide +kernel)) ggX10_gossipTime_X10_in
set_option maxRecDepth 20000 in
theorem ggX10_gossipTime_X10_starts : GoodIn wsX10_gossipTime wsX10_starts := goodIn_r _ [8, 9, 10, 11, 12, 13, 3, 14, 15, 48, 49, 50, 51, 52, 53, 54, 55, 56, 57, 58, 59, 60, 61, 62, 63, 64, 65, 66] (by decide +kernel) (by decide +kernel)
set_option maxRecDepth 20000 in
theorem gX10_gossipTime_X10_starts : GoodIn wsX10_gossipTime (wsV RX10 229 RX10 yX10_starts wsX10_starts) := goodIn_app (goodIn_of _ (by decide +kernel)) ggX10_gossipTime_X10_starts
set_option maxRecDepth 20000 in
theorem ggX10_gossipTime_X10_allKnow : GoodIn wsX10_gossipTime wsX10_allKnow := goodIn_r _ [19, 20, 15, 21, 22, 23, 3, 24, 48, 49, 50, 51, 52, 53, 54, 55, 56, 57, 58, 59, 60, 61, 62, 63, 64, 65, 66] (by decide +kernel) (by decide +kernel)
set_option maxRecDepth 20000 in
theorem gX10_gossipTime_X10_allKnow : GoodIn wsX10_gossipTime (wsV RX10 235 RX10 yX10_allKnow wsX10_allKnow) := goodIn_app (goodIn_of _ (by decide +kernel)) ggX10_gossipTime_X10_allKnow
set_option maxRecDepth 20000 in
theorem ggX10_gossipTime_X10_talks : GoodIn wsX10_gossipTime wsX10_talks := goodIn_r _ [28, 20, 29, 9, 15, 10, 30, 31, 32, 3, 33, 34, 35, 36, 37, 38, 39, 40, 41, 42, 43, 44, 45, 46, 47, 48, 49, 50, 51, 52, 53, 54, 55, 56, 57, 58, 59, 60, 61, 62, 63, 64, 65, 66] (by decide +kernel) (by decide +kernel)
set_option maxRecDepth 20000 in
theorem gX10_gossipTime_X10_talks : GoodIn wsX10_gossipTime (wsV RX10 232 RX10 yX10_talks wsX10_talks) := goodIn_app (goodIn_of _ (by decide +kernel)) ggX10_gossipTime_X10_talks
theorem dX10_gossipTime_0 : decode cX10_gossipTime 0 = .ok (.iload_n 1, 1) := by decide +kernel
theorem dX10_gossipTime_1 : decode cX10_gossipTime 1 = .ok (.iconst 0, 1) := by decide +kernel
theorem dX10_gossipTime_2 : decode cX10_gossipTime 2 = .ok (.iconst 2, 1) := by decide +kernel
theorem dX10_gossipTime_3 : decode cX10_gossipTime 3 = .ok (.invokestatic 51, 3) := by decide +kernel
theorem dX10_gossipTime_6 : decode cX10_gossipTime 6 = .ok (.ifCond .ne 5, 3) := by decide +kernel
theorem dX10_gossipTime_9 : decode cX10_gossipTime 9 = .ok (.iconst (-1), 1) := by decide +kernel
theorem dX10_gossipTime_10 : decode cX10_gossipTime 10 = .ok (.ireturn, 1) := by decide +kernel
theorem dX10_gossipTime_11 : decode cX10_gossipTime 11 = .ok (.aload_n 0, 1) := by decide +kernel
theorem dX10_gossipTime_12 : decode cX10_gossipTime 12 = .ok (.invokevirtual 229, 3) := by decide +kernel
theorem dX10_gossipTime_15 : decode cX10_gossipTime 15 = .ok (.iconst 0, 1) := by decide +kernel
theorem dX10_gossipTime_16 : decode cX10_gossipTime 16 = .ok (.istore_n 2, 1) := by decide +kernel
theorem dX10_gossipTime_17 : decode cX10_gossipTime 17 = .ok (.iload_n 2, 1) := by decide +kernel
theorem dX10_gossipTime_18 : decode cX10_gossipTime 18 = .ok (.bipush 99, 2) := by decide +kernel
theorem dX10_gossipTime_20 : decode cX10_gossipTime 20 = .ok (.if_icmp .gt 22, 3) := by decide +kernel
theorem dX10_gossipTime_23 : decode cX10_gossipTime 23 = .ok (.aload_n 0, 1) := by decide +kernel
theorem dX10_gossipTime_24 : decode cX10_gossipTime 24 = .ok (.invokevirtual 235, 3) := by decide +kernel
theorem dX10_gossipTime_27 : decode cX10_gossipTime 27 = .ok (.ifCond .ne 15, 3) := by decide +kernel
theorem dX10_gossipTime_30 : decode cX10_gossipTime 30 = .ok (.aload_n 0, 1) := by decide +kernel
theorem dX10_gossipTime_31 : decode cX10_gossipTime 31 = .ok (.iload_n 1, 1) := by decide +kernel
theorem dX10_gossipTime_32 : decode cX10_gossipTime 32 = .ok (.iload_n 2, 1) := by decide +kernel
theorem dX10_gossipTime_33 : decode cX10_gossipTime 33 = .ok (.invokevirtual 232, 3) := by decide +kernel
theorem dX10_gossipTime_36 : decode cX10_gossipTime 36 = .ok (.iinc 2 1, 3) := by decide +kernel
theorem dX10_gossipTime_39 : decode cX10_gossipTime 39 = .ok (.goto (-22), 3) := by decide +kernel
theorem dX10_gossipTime_42 : decode cX10_gossipTime 42 = .ok (.iload_n 2, 1) := by decide +kernel
theorem dX10_gossipTime_43 : decode cX10_gossipTime 43 = .ok (.bipush 99, 2) := by decide +kernel
theorem dX10_gossipTime_45 : decode cX10_gossipTime 45 = .ok (.if_icmp .gt 7, 3) := by decide +kernel
theorem dX10_gossipTime_48 : decode cX10_gossipTime 48 = .ok (.iload_n 2, 1) := by decide +kernel
theorem dX10_gossipTime_49 : decode cX10_gossipTime 49 = .ok (.goto 5, 3) := by decide +kernel
theorem dX10_gossipTime_52 : decode cX10_gossipTime 52 = .ok (.bipush (-9), 2) := by decide +kernel
theorem dX10_gossipTime_54 : decode cX10_gossipTime 54 = .ok (.ireturn, 1) := by decide +kernel
theorem dX10_least_0 : decode cX10_least 0 = .ok (.bipush 100, 2) := by decide +kernel
theorem dX10_least_2 : decode cX10_least 2 = .ok (.istore_n 2, 1) := by decide +kernel
theorem dX10_least_3 : decode cX10_least 3 = .ok (.iconst 0, 1) := by decide +kernel
theorem dX10_least_4 : decode cX10_least 4 = .ok (.istore_n 3, 1) := by decide +kernel
theorem dX10_least_5 : decode cX10_least 5 = .ok (.iload_n 3, 1) := by decide +kernel
theorem dX10_least_6 : decode cX10_least 6 = .ok (.aload_n 0, 1) := by decide +kernel
theorem dX10_least_7 : decode cX10_least 7 = .ok (.getfield 7, 3) := by decide +kernel
theorem dX10_least_10 : decode cX10_least 10 = .ok (.iconst 0, 1) := by decide +kernel
theorem dX10_least_11 : decode cX10_least 11 = .ok (.iaload, 1) := by decide +kernel
theorem dX10_least_12 : decode cX10_least 12 = .ok (.if_icmp .ge 62, 3) := by decide +kernel
theorem dX10_least_15 : decode cX10_least 15 = .ok (.aload_n 0, 1) := by decide +kernel
theorem dX10_least_16 : decode cX10_least 16 = .ok (.getfield 22, 3) := by decide +kernel
theorem dX10_least_19 : decode cX10_least 19 = .ok (.iload_n 1, 1) := by decide +kernel
theorem dX10_least_20 : decode cX10_least 20 = .ok (.iaload, 1) := by decide +kernel
theorem dX10_least_21 : decode cX10_least 21 = .ok (.iload_n 3, 1) := by decide +kernel
theorem dX10_least_22 : decode cX10_least 22 = .ok (.ishr, 1) := by decide +kernel
theorem dX10_least_23 : decode cX10_least 23 = .ok (.iconst 1, 1) := by decide +kernel
theorem dX10_least_24 : decode cX10_least 24 = .ok (.iand, 1) := by decide +kernel
theorem dX10_least_25 : decode cX10_least 25 = .ok (.iconst 1, 1) := by decide +kernel
theorem dX10_least_26 : decode cX10_least 26 = .ok (.if_icmp .ne 20, 3) := by decide +kernel
theorem dX10_least_29 : decode cX10_least 29 = .ok (.aload_n 0, 1) := by decide +kernel
theorem dX10_least_30 : decode cX10_least 30 = .ok (.getfield 7, 3) := by decide +kernel
theorem dX10_least_33 : decode cX10_least 33 = .ok (.bipush 18, 2) := by decide +kernel
theorem dX10_least_35 : decode cX10_least 35 = .ok (.iload_n 3, 1) := by decide +kernel
theorem dX10_least_36 : decode cX10_least 36 = .ok (.iadd, 1) := by decide +kernel
theorem dX10_least_37 : decode cX10_least 37 = .ok (.iaload, 1) := by decide +kernel
theorem dX10_least_38 : decode cX10_least 38 = .ok (.iload_n 2, 1) := by decide +kernel
theorem dX10_least_39 : decode cX10_least 39 = .ok (.if_icmp .ge 7, 3) := by decide +kernel
theorem dX10_least_42 : decode cX10_least 42 = .ok (.iconst 1, 1) := by decide +kernel
theorem dX10_least_43 : decode cX10_least 43 = .ok (.goto 4, 3) := by decide +kernel
theorem dX10_least_46 : decode cX10_least 46 = .ok (.iconst 0, 1) := by decide +kernel
theorem dX10_least_47 : decode cX10_least 47 = .ok (.istore 4, 2) := by decide +kernel
theorem dX10_least_49 : decode cX10_least 49 = .ok (.iload 4, 2) := by decide +kernel
theorem dX10_least_51 : decode cX10_least 51 = .ok (.ifCond .eq 15, 3) := by decide +kernel
theorem dX10_least_54 : decode cX10_least 54 = .ok (.aload_n 0, 1) := by decide +kernel
theorem dX10_least_55 : decode cX10_least 55 = .ok (.getfield 7, 3) := by decide +kernel
theorem dX10_least_58 : decode cX10_least 58 = .ok (.bipush 18, 2) := by decide +kernel
theorem dX10_least_60 : decode cX10_least 60 = .ok (.iload_n 3, 1) := by decide +kernel
theorem dX10_least_61 : decode cX10_least 61 = .ok (.iadd, 1) := by decide +kernel
theorem dX10_least_62 : decode cX10_least 62 = .ok (.iaload, 1) := by decide +kernel
theorem dX10_least_63 : decode cX10_least 63 = .ok (.goto 4, 3) := by decide +kernel
theorem dX10_least_66 : decode cX10_least 66 = .ok (.iload_n 2, 1) := by decide +kernel
theorem dX10_least_67 : decode cX10_least 67 = .ok (.istore_n 2, 1) := by decide +kernel
theorem dX10_least_68 : decode cX10_least 68 = .ok (.iinc 3 1, 3) := by decide +kernel
theorem dX10_least_71 : decode cX10_least 71 = .ok (.goto (-66), 3) := by decide +kernel
theorem dX10_least_74 : decode cX10_least 74 = .ok (.iload_n 2, 1) := by decide +kernel
theorem dX10_least_75 : decode cX10_least 75 = .ok (.ireturn, 1) := by decide +kernel
set_option maxRecDepth 20000 in
theorem ggX10_decision_X10_isNode : GoodIn wsX10_decision wsX10_isNode := goodIn_r _ [5, 6, 7, 8, 4, 9, 38, 39, 40, 41, 42, 43, 44, 45, 46, 47, 48, 49, 50, 51, 52, 53, 54, 55, 56] (by decide +kernel) (by decide +kernel)
set_option maxRecDepth 20000 in
theorem gX10_decision_X10_isNode : GoodIn wsX10_decision (wsV RX10 55 RX10 yX10_isNode wsX10_isNode) := goodIn_app (goodIn_of _ (by decide +kernel)) ggX10_decision_X10_isNode
set_option maxRecDepth 20000 in
theorem ggX10_decision_X10_isTime : GoodIn wsX10_decision wsX10_isTime := goodIn_r _ [12, 7, 8, 4, 9] (by decide +kernel) (by decide +kernel)
set_option maxRecDepth 20000 in
theorem gX10_decision_X10_isTime : GoodIn wsX10_decision (va_wsS RX10 213 yX10_isTime wsX10_isTime) := goodIn_app (goodIn_of _ (by decide +kernel)) ggX10_decision_X10_isTime
set_option maxRecDepth 20000 in
theorem ggX10_decision_X10_floods : GoodIn wsX10_decision wsX10_floods := goodIn_r _ [16, 17, 18, 19, 4, 20, 21, 22, 23, 24, 25, 6, 26, 27, 28, 29, 30, 31, 32, 33, 38, 39, 40, 41, 42, 43, 44, 45, 46, 47, 48, 49, 50, 51, 52, 53, 54, 55, 56] (by decide +kernel) (by decide +kernel)
set_option maxRecDepth 20000 in
theorem gX10_decision_X10_floods : GoodIn wsX10_decision (wsV RX10 83 RX10 yX10_floods wsX10_floods) := goodIn_app (goodIn_of _ (by decide +kernel)) ggX10_decision_X10_floods
set_option maxRecDepth 20000 in
theorem ggX10_decision_X10_least : GoodIn wsX10_decision wsX10_least := goodIn_r _ [37, 6, 21, 38, 39, 40, 41, 42, 43, 44, 45, 46, 47, 48, 49, 50, 51, 52, 53, 54, 55, 56] (by decide +kernel) (by decide +kernel)
set_option maxRecDepth 20000 in
theorem gX10_decision_X10_least : GoodIn wsX10_decision (wsV RX10 238 RX10 yX10_least wsX10_least) := goodIn_app (goodIn_of _ (by decide +kernel)) ggX10_decision_X10_least
theorem dX10_decision_0 : decode cX10_decision 0 = .ok (.aload_n 0, 1) := by decide +kernel
theorem dX10_decision_1 : decode cX10_decision 1 = .ok (.iload_n 1, 1) := by decide +kernel
theorem dX10_decision_2 : decode cX10_decision 2 = .ok (.invokevirtual 55, 3) := by decide +kernel
theorem dX10_decision_5 : decode cX10_decision 5 = .ok (.ifCond .eq 10, 3) := by decide +kernel
theorem dX10_decision_8 : decode cX10_decision 8 = .ok (.iload_n 2, 1) := by decide +kernel
theorem dX10_decision_9 : decode cX10_decision 9 = .ok (.invokestatic 213, 3) := by decide +kernel
theorem dX10_decision_12 : decode cX10_decision 12 = .ok (.ifCond .ne 5, 3) := by decide +kernel
theorem dX10_decision_15 : decode cX10_decision 15 = .ok (.iconst (-1), 1) := by decide +kernel
theorem dX10_decision_16 : decode cX10_decision 16 = .ok (.ireturn, 1) := by decide +kernel
theorem dX10_decision_17 : decode cX10_decision 17 = .ok (.aload_n 0, 1) := by decide +kernel
theorem dX10_decision_18 : decode cX10_decision 18 = .ok (.iconst 0, 1) := by decide +kernel
theorem dX10_decision_19 : decode cX10_decision 19 = .ok (.iload_n 2, 1) := by decide +kernel
theorem dX10_decision_20 : decode cX10_decision 20 = .ok (.invokevirtual 83, 3) := by decide +kernel
theorem dX10_decision_23 : decode cX10_decision 23 = .ok (.aload_n 0, 1) := by decide +kernel
theorem dX10_decision_24 : decode cX10_decision 24 = .ok (.iload_n 1, 1) := by decide +kernel
theorem dX10_decision_25 : decode cX10_decision 25 = .ok (.invokevirtual 238, 3) := by decide +kernel
theorem dX10_decision_28 : decode cX10_decision 28 = .ok (.ireturn, 1) := by decide +kernel
set_option maxRecDepth 20000 in
theorem ggX10_agree_X10_least : GoodIn wsX10_agree wsX10_least := goodIn_r _ [6, 1, 7, 8, 9, 10, 11, 12, 13, 14, 15, 16, 17, 18, 19, 20, 21, 22, 23, 24, 25, 26] (by decide +kernel) (by decide +kernel)
set_option maxRecDepth 20000 in
theorem gX10_agree_X10_least : GoodIn wsX10_agree (wsV RX10 238 RX10 yX10_least wsX10_least) := goodIn_app (goodIn_of _ (by decide +kernel)) ggX10_agree_X10_least
theorem dX10_agree_0 : decode cX10_agree 0 = .ok (.iconst 1, 1) := by decide +kernel
theorem dX10_agree_1 : decode cX10_agree 1 = .ok (.istore_n 1, 1) := by decide +kernel
theorem dX10_agree_2 : decode cX10_agree 2 = .ok (.iconst 1, 1) := by decide +kernel
theorem dX10_agree_3 : decode cX10_agree 3 = .ok (.istore_n 2, 1) := by decide +kernel
theorem dX10_agree_4 : decode cX10_agree 4 = .ok (.iload_n 2, 1) := by decide +kernel
theorem dX10_agree_5 : decode cX10_agree 5 = .ok (.aload_n 0, 1) := by decide +kernel
theorem dX10_agree_6 : decode cX10_agree 6 = .ok (.getfield 7, 3) := by decide +kernel
theorem dX10_agree_9 : decode cX10_agree 9 = .ok (.iconst 0, 1) := by decide +kernel
theorem dX10_agree_10 : decode cX10_agree 10 = .ok (.iaload, 1) := by decide +kernel
theorem dX10_agree_11 : decode cX10_agree 11 = .ok (.if_icmp .ge 32, 3) := by decide +kernel
theorem dX10_agree_14 : decode cX10_agree 14 = .ok (.iload_n 1, 1) := by decide +kernel
theorem dX10_agree_15 : decode cX10_agree 15 = .ok (.ifCond .eq 20, 3) := by decide +kernel
theorem dX10_agree_18 : decode cX10_agree 18 = .ok (.aload_n 0, 1) := by decide +kernel
theorem dX10_agree_19 : decode cX10_agree 19 = .ok (.iload_n 2, 1) := by decide +kernel
theorem dX10_agree_20 : decode cX10_agree 20 = .ok (.invokevirtual 238, 3) := by decide +kernel
theorem dX10_agree_23 : decode cX10_agree 23 = .ok (.aload_n 0, 1) := by decide +kernel
theorem dX10_agree_24 : decode cX10_agree 24 = .ok (.iconst 0, 1) := by decide +kernel
theorem dX10_agree_25 : decode cX10_agree 25 = .ok (.invokevirtual 238, 3) := by decide +kernel
theorem dX10_agree_28 : decode cX10_agree 28 = .ok (.if_icmp .ne 7, 3) := by decide +kernel
theorem dX10_agree_31 : decode cX10_agree 31 = .ok (.iconst 1, 1) := by decide +kernel
theorem dX10_agree_32 : decode cX10_agree 32 = .ok (.goto 4, 3) := by decide +kernel
theorem dX10_agree_35 : decode cX10_agree 35 = .ok (.iconst 0, 1) := by decide +kernel
theorem dX10_agree_36 : decode cX10_agree 36 = .ok (.istore_n 1, 1) := by decide +kernel
theorem dX10_agree_37 : decode cX10_agree 37 = .ok (.iinc 2 1, 3) := by decide +kernel
theorem dX10_agree_40 : decode cX10_agree 40 = .ok (.goto (-36), 3) := by decide +kernel
theorem dX10_agree_43 : decode cX10_agree 43 = .ok (.iload_n 1, 1) := by decide +kernel
theorem dX10_agree_44 : decode cX10_agree 44 = .ok (.ireturn, 1) := by decide +kernel
set_option maxRecDepth 20000 in
theorem ggX10_agreement_X10_alone : GoodIn wsX10_agreement wsX10_alone := goodIn_r _ [5, 6, 28, 29, 30, 31, 32, 33, 34, 35, 36, 37, 38, 39, 40, 41, 42, 43, 44, 45, 46] (by decide +kernel) (by decide +kernel)
set_option maxRecDepth 20000 in
theorem gX10_agreement_X10_alone : GoodIn wsX10_agreement (wsV RX10 207 RX10 yX10_alone wsX10_alone) := goodIn_app (goodIn_of _ (by decide +kernel)) ggX10_agreement_X10_alone
set_option maxRecDepth 20000 in
theorem ggX10_agreement_X10_agree : GoodIn wsX10_agreement wsX10_agree := goodIn_r _ [10, 11, 12, 13, 14, 4, 15, 6, 28, 29, 30, 31, 32, 33, 34, 35, 36, 37, 38, 39, 40, 41, 42, 43, 44, 45, 46] (by decide +kernel) (by decide +kernel)
set_option maxRecDepth 20000 in
theorem gX10_agreement_X10_agree : GoodIn wsX10_agreement (wsV RX10 241 RX10 yX10_agree wsX10_agree) := goodIn_app (goodIn_of _ (by decide +kernel)) ggX10_agreement_X10_agree
set_option maxRecDepth 20000 in
theorem ggX10_agreement_X10_spreads : GoodIn wsX10_agreement wsX10_spreads := goodIn_r _ [19, 11, 20, 6, 21, 22, 23, 4, 24, 25, 26, 27, 28, 29, 30, 31, 32, 33, 34, 35, 36, 37, 38, 39, 40, 41, 42, 43, 44, 45, 46] (by decide +kernel) (by decide +kernel)
set_option maxRecDepth 20000 in
theorem gX10_agreement_X10_spreads : GoodIn wsX10_agreement (wsV RX10 210 RX10 yX10_spreads wsX10_spreads) := goodIn_app (goodIn_of _ (by decide +kernel)) ggX10_agreement_X10_spreads
theorem dX10_agreement_0 : decode cX10_agreement 0 = .ok (.aload_n 0, 1) := by decide +kernel
theorem dX10_agreement_1 : decode cX10_agreement 1 = .ok (.invokevirtual 207, 3) := by decide +kernel
theorem dX10_agreement_4 : decode cX10_agreement 4 = .ok (.iconst 0, 1) := by decide +kernel
theorem dX10_agreement_5 : decode cX10_agreement 5 = .ok (.istore_n 1, 1) := by decide +kernel
theorem dX10_agreement_6 : decode cX10_agreement 6 = .ok (.iload_n 1, 1) := by decide +kernel
theorem dX10_agreement_7 : decode cX10_agreement 7 = .ok (.sipush 130, 3) := by decide +kernel
theorem dX10_agreement_10 : decode cX10_agreement 10 = .ok (.if_icmp .gt 23, 3) := by decide +kernel
theorem dX10_agreement_13 : decode cX10_agreement 13 = .ok (.aload_n 0, 1) := by decide +kernel
theorem dX10_agreement_14 : decode cX10_agreement 14 = .ok (.invokevirtual 241, 3) := by decide +kernel
theorem dX10_agreement_17 : decode cX10_agreement 17 = .ok (.ifCond .eq 5, 3) := by decide +kernel
theorem dX10_agreement_20 : decode cX10_agreement 20 = .ok (.iload_n 1, 1) := by decide +kernel
theorem dX10_agreement_21 : decode cX10_agreement 21 = .ok (.ireturn, 1) := by decide +kernel
theorem dX10_agreement_22 : decode cX10_agreement 22 = .ok (.aload_n 0, 1) := by decide +kernel
theorem dX10_agreement_23 : decode cX10_agreement 23 = .ok (.iload_n 1, 1) := by decide +kernel
theorem dX10_agreement_24 : decode cX10_agreement 24 = .ok (.invokevirtual 210, 3) := by decide +kernel
theorem dX10_agreement_27 : decode cX10_agreement 27 = .ok (.iinc 1 1, 3) := by decide +kernel
theorem dX10_agreement_30 : decode cX10_agreement 30 = .ok (.goto (-24), 3) := by decide +kernel
theorem dX10_agreement_33 : decode cX10_agreement 33 = .ok (.bipush (-9), 2) := by decide +kernel
theorem dX10_agreement_35 : decode cX10_agreement 35 = .ok (.ireturn, 1) := by decide +kernel
theorem dX10_allDecided_0 : decode cX10_allDecided 0 = .ok (.iconst 1, 1) := by decide +kernel
theorem dX10_allDecided_1 : decode cX10_allDecided 1 = .ok (.istore_n 1, 1) := by decide +kernel
theorem dX10_allDecided_2 : decode cX10_allDecided 2 = .ok (.iconst 0, 1) := by decide +kernel
theorem dX10_allDecided_3 : decode cX10_allDecided 3 = .ok (.istore_n 2, 1) := by decide +kernel
theorem dX10_allDecided_4 : decode cX10_allDecided 4 = .ok (.iload_n 2, 1) := by decide +kernel
theorem dX10_allDecided_5 : decode cX10_allDecided 5 = .ok (.aload_n 0, 1) := by decide +kernel
theorem dX10_allDecided_6 : decode cX10_allDecided 6 = .ok (.getfield 7, 3) := by decide +kernel
theorem dX10_allDecided_9 : decode cX10_allDecided 9 = .ok (.iconst 0, 1) := by decide +kernel
theorem dX10_allDecided_10 : decode cX10_allDecided 10 = .ok (.iaload, 1) := by decide +kernel
theorem dX10_allDecided_11 : decode cX10_allDecided 11 = .ok (.if_icmp .ge 28, 3) := by decide +kernel
theorem dX10_allDecided_14 : decode cX10_allDecided 14 = .ok (.iload_n 1, 1) := by decide +kernel
theorem dX10_allDecided_15 : decode cX10_allDecided 15 = .ok (.ifCond .eq 16, 3) := by decide +kernel
theorem dX10_allDecided_18 : decode cX10_allDecided 18 = .ok (.aload_n 0, 1) := by decide +kernel
theorem dX10_allDecided_19 : decode cX10_allDecided 19 = .ok (.getfield 40, 3) := by decide +kernel
theorem dX10_allDecided_22 : decode cX10_allDecided 22 = .ok (.iload_n 2, 1) := by decide +kernel
theorem dX10_allDecided_23 : decode cX10_allDecided 23 = .ok (.iaload, 1) := by decide +kernel
theorem dX10_allDecided_24 : decode cX10_allDecided 24 = .ok (.ifCond .le 7, 3) := by decide +kernel
theorem dX10_allDecided_27 : decode cX10_allDecided 27 = .ok (.iconst 1, 1) := by decide +kernel
theorem dX10_allDecided_28 : decode cX10_allDecided 28 = .ok (.goto 4, 3) := by decide +kernel
theorem dX10_allDecided_31 : decode cX10_allDecided 31 = .ok (.iconst 0, 1) := by decide +kernel
theorem dX10_allDecided_32 : decode cX10_allDecided 32 = .ok (.istore_n 1, 1) := by decide +kernel
theorem dX10_allDecided_33 : decode cX10_allDecided 33 = .ok (.iinc 2 1, 3) := by decide +kernel
theorem dX10_allDecided_36 : decode cX10_allDecided 36 = .ok (.goto (-32), 3) := by decide +kernel
theorem dX10_allDecided_39 : decode cX10_allDecided 39 = .ok (.iload_n 1, 1) := by decide +kernel
theorem dX10_allDecided_40 : decode cX10_allDecided 40 = .ok (.ireturn, 1) := by decide +kernel
set_option maxRecDepth 20000 in
theorem ggX10_phase_X10_floods : GoodIn wsX10_phase wsX10_floods := goodIn_r _ [8, 9, 10, 11, 7, 12, 2, 13, 14, 15, 16, 1, 17, 18, 19, 20, 21, 22, 23, 24, 32, 33, 34, 35, 36, 37, 38, 39, 40, 41, 42, 43, 44, 45, 46, 47, 48, 49, 50] (by decide +kernel) (by decide +kernel)
set_option maxRecDepth 20000 in
theorem gX10_phase_X10_floods : GoodIn wsX10_phase (wsV RX10 83 RX10 yX10_floods wsX10_floods) := goodIn_app (goodIn_of _ (by decide +kernel)) ggX10_phase_X10_floods
set_option maxRecDepth 20000 in
theorem ggX10_phase_X10_size : GoodIn wsX10_phase wsX10_size := goodIn_r _ [27] (by decide +kernel) (by decide +kernel)
set_option maxRecDepth 20000 in
theorem gX10_phase_X10_size : GoodIn wsX10_phase (va_wsS RX10 80 yX10_size wsX10_size) := goodIn_app (goodIn_of _ (by decide +kernel)) ggX10_phase_X10_size
set_option maxRecDepth 20000 in
theorem ggX10_phase_X10_edgesAt : GoodIn wsX10_phase wsX10_edgesAt := goodIn_r _ [21, 1, 32, 33, 34, 35, 36, 37, 38, 39, 40, 41, 42, 43, 44, 45, 46, 47, 48, 49, 50] (by decide +kernel) (by decide +kernel)
set_option maxRecDepth 20000 in
theorem gX10_phase_X10_edgesAt : GoodIn wsX10_phase (wsV RX10 204 RX10 yX10_edgesAt wsX10_edgesAt) := goodIn_app (goodIn_of _ (by decide +kernel)) ggX10_phase_X10_edgesAt
set_option maxRecDepth 20000 in
theorem ggX10_phase_X10_around : GoodIn wsX10_phase wsX10_around := goodIn_r _ [31, 1, 22, 23, 7, 24, 32, 33, 34, 35, 36, 37, 38, 39, 40, 41, 42, 43, 44, 45, 46, 47, 48, 49, 50] (by decide +kernel) (by decide +kernel)
set_option maxRecDepth 20000 in
theorem gX10_phase_X10_around : GoodIn wsX10_phase (wsV RX10 185 RX10 yX10_around wsX10_around) := goodIn_app (goodIn_of _ (by decide +kernel)) ggX10_phase_X10_around
theorem dX10_phase_0 : decode cX10_phase 0 = .ok (.aload_n 0, 1) := by decide +kernel
theorem dX10_phase_1 : decode cX10_phase 1 = .ok (.iload_n 2, 1) := by decide +kernel
theorem dX10_phase_2 : decode cX10_phase 2 = .ok (.iload_n 1, 1) := by decide +kernel
theorem dX10_phase_3 : decode cX10_phase 3 = .ok (.invokevirtual 83, 3) := by decide +kernel
theorem dX10_phase_6 : decode cX10_phase 6 = .ok (.iconst 0, 1) := by decide +kernel
theorem dX10_phase_7 : decode cX10_phase 7 = .ok (.istore_n 3, 1) := by decide +kernel
theorem dX10_phase_8 : decode cX10_phase 8 = .ok (.iconst 0, 1) := by decide +kernel
theorem dX10_phase_9 : decode cX10_phase 9 = .ok (.istore 4, 2) := by decide +kernel
theorem dX10_phase_11 : decode cX10_phase 11 = .ok (.iload 4, 2) := by decide +kernel
theorem dX10_phase_13 : decode cX10_phase 13 = .ok (.aload_n 0, 1) := by decide +kernel
theorem dX10_phase_14 : decode cX10_phase 14 = .ok (.getfield 7, 3) := by decide +kernel
theorem dX10_phase_17 : decode cX10_phase 17 = .ok (.iconst 0, 1) := by decide +kernel
theorem dX10_phase_18 : decode cX10_phase 18 = .ok (.iaload, 1) := by decide +kernel
theorem dX10_phase_19 : decode cX10_phase 19 = .ok (.if_icmp .ge 34, 3) := by decide +kernel
theorem dX10_phase_22 : decode cX10_phase 22 = .ok (.iload_n 3, 1) := by decide +kernel
theorem dX10_phase_23 : decode cX10_phase 23 = .ok (.aload_n 0, 1) := by decide +kernel
theorem dX10_phase_24 : decode cX10_phase 24 = .ok (.getfield 22, 3) := by decide +kernel
theorem dX10_phase_27 : decode cX10_phase 27 = .ok (.iload 4, 2) := by decide +kernel
theorem dX10_phase_29 : decode cX10_phase 29 = .ok (.iaload, 1) := by decide +kernel
theorem dX10_phase_30 : decode cX10_phase 30 = .ok (.invokestatic 80, 3) := by decide +kernel
theorem dX10_phase_33 : decode cX10_phase 33 = .ok (.iload_n 1, 1) := by decide +kernel
theorem dX10_phase_34 : decode cX10_phase 34 = .ok (.if_icmp .le 10, 3) := by decide +kernel
theorem dX10_phase_37 : decode cX10_phase 37 = .ok (.iconst 1, 1) := by decide +kernel
theorem dX10_phase_38 : decode cX10_phase 38 = .ok (.iload 4, 2) := by decide +kernel
theorem dX10_phase_40 : decode cX10_phase 40 = .ok (.ishl, 1) := by decide +kernel
theorem dX10_phase_41 : decode cX10_phase 41 = .ok (.goto 4, 3) := by decide +kernel
theorem dX10_phase_44 : decode cX10_phase 44 = .ok (.iconst 0, 1) := by decide +kernel
theorem dX10_phase_45 : decode cX10_phase 45 = .ok (.ior, 1) := by decide +kernel
theorem dX10_phase_46 : decode cX10_phase 46 = .ok (.istore_n 3, 1) := by decide +kernel
theorem dX10_phase_47 : decode cX10_phase 47 = .ok (.iinc 4 1, 3) := by decide +kernel
theorem dX10_phase_50 : decode cX10_phase 50 = .ok (.goto (-39), 3) := by decide +kernel
theorem dX10_phase_53 : decode cX10_phase 53 = .ok (.iload_n 1, 1) := by decide +kernel
theorem dX10_phase_54 : decode cX10_phase 54 = .ok (.istore 4, 2) := by decide +kernel
theorem dX10_phase_56 : decode cX10_phase 56 = .ok (.iload 4, 2) := by decide +kernel
theorem dX10_phase_58 : decode cX10_phase 58 = .ok (.iconst 2, 1) := by decide +kernel
theorem dX10_phase_59 : decode cX10_phase 59 = .ok (.iload_n 1, 1) := by decide +kernel
theorem dX10_phase_60 : decode cX10_phase 60 = .ok (.imul, 1) := by decide +kernel
theorem dX10_phase_61 : decode cX10_phase 61 = .ok (.if_icmp .ge 23, 3) := by decide +kernel
theorem dX10_phase_64 : decode cX10_phase 64 = .ok (.aload_n 0, 1) := by decide +kernel
theorem dX10_phase_65 : decode cX10_phase 65 = .ok (.aload_n 0, 1) := by decide +kernel
theorem dX10_phase_66 : decode cX10_phase 66 = .ok (.iload_n 2, 1) := by decide +kernel
theorem dX10_phase_67 : decode cX10_phase 67 = .ok (.iload 4, 2) := by decide +kernel
theorem dX10_phase_69 : decode cX10_phase 69 = .ok (.iadd, 1) := by decide +kernel
theorem dX10_phase_70 : decode cX10_phase 70 = .ok (.invokevirtual 204, 3) := by decide +kernel
theorem dX10_phase_73 : decode cX10_phase 73 = .ok (.iload_n 3, 1) := by decide +kernel
theorem dX10_phase_74 : decode cX10_phase 74 = .ok (.invokevirtual 185, 3) := by decide +kernel
theorem dX10_phase_77 : decode cX10_phase 77 = .ok (.istore_n 3, 1) := by decide +kernel
theorem dX10_phase_78 : decode cX10_phase 78 = .ok (.iinc 4 1, 3) := by decide +kernel
theorem dX10_phase_81 : decode cX10_phase 81 = .ok (.goto (-25), 3) := by decide +kernel
theorem dX10_phase_84 : decode cX10_phase 84 = .ok (.iconst 0, 1) := by decide +kernel
theorem dX10_phase_85 : decode cX10_phase 85 = .ok (.istore 4, 2) := by decide +kernel
theorem dX10_phase_87 : decode cX10_phase 87 = .ok (.iload 4, 2) := by decide +kernel
theorem dX10_phase_89 : decode cX10_phase 89 = .ok (.aload_n 0, 1) := by decide +kernel
theorem dX10_phase_90 : decode cX10_phase 90 = .ok (.getfield 7, 3) := by decide +kernel
theorem dX10_phase_93 : decode cX10_phase 93 = .ok (.iconst 0, 1) := by decide +kernel
theorem dX10_phase_94 : decode cX10_phase 94 = .ok (.iaload, 1) := by decide +kernel
theorem dX10_phase_95 : decode cX10_phase 95 = .ok (.if_icmp .ge 67, 3) := by decide +kernel
theorem dX10_phase_98 : decode cX10_phase 98 = .ok (.iload_n 3, 1) := by decide +kernel
theorem dX10_phase_99 : decode cX10_phase 99 = .ok (.iload 4, 2) := by decide +kernel
theorem dX10_phase_101 : decode cX10_phase 101 = .ok (.ishr, 1) := by decide +kernel
theorem dX10_phase_102 : decode cX10_phase 102 = .ok (.iconst 1, 1) := by decide +kernel
theorem dX10_phase_103 : decode cX10_phase 103 = .ok (.iand, 1) := by decide +kernel
theorem dX10_phase_104 : decode cX10_phase 104 = .ok (.ifCond .ne 17, 3) := by decide +kernel
theorem dX10_phase_107 : decode cX10_phase 107 = .ok (.aload_n 0, 1) := by decide +kernel
theorem dX10_phase_108 : decode cX10_phase 108 = .ok (.getfield 40, 3) := by decide +kernel
theorem dX10_phase_111 : decode cX10_phase 111 = .ok (.iload 4, 2) := by decide +kernel
theorem dX10_phase_113 : decode cX10_phase 113 = .ok (.iaload, 1) := by decide +kernel
theorem dX10_phase_114 : decode cX10_phase 114 = .ok (.ifCond .ne 7, 3) := by decide +kernel
theorem dX10_phase_117 : decode cX10_phase 117 = .ok (.iconst 1, 1) := by decide +kernel
theorem dX10_phase_118 : decode cX10_phase 118 = .ok (.goto 4, 3) := by decide +kernel
theorem dX10_phase_121 : decode cX10_phase 121 = .ok (.iconst 0, 1) := by decide +kernel
theorem dX10_phase_122 : decode cX10_phase 122 = .ok (.istore 5, 2) := by decide +kernel
theorem dX10_phase_124 : decode cX10_phase 124 = .ok (.aload_n 0, 1) := by decide +kernel
theorem dX10_phase_125 : decode cX10_phase 125 = .ok (.getfield 40, 3) := by decide +kernel
theorem dX10_phase_128 : decode cX10_phase 128 = .ok (.iload 4, 2) := by decide +kernel
theorem dX10_phase_130 : decode cX10_phase 130 = .ok (.iload 5, 2) := by decide +kernel
theorem dX10_phase_132 : decode cX10_phase 132 = .ok (.ifCond .eq 16, 3) := by decide +kernel
theorem dX10_phase_135 : decode cX10_phase 135 = .ok (.aload_n 0, 1) := by decide +kernel
theorem dX10_phase_136 : decode cX10_phase 136 = .ok (.getfield 22, 3) := by decide +kernel
theorem dX10_phase_139 : decode cX10_phase 139 = .ok (.iload 4, 2) := by decide +kernel
theorem dX10_phase_141 : decode cX10_phase 141 = .ok (.iaload, 1) := by decide +kernel
theorem dX10_phase_142 : decode cX10_phase 142 = .ok (.invokestatic 80, 3) := by decide +kernel
theorem dX10_phase_145 : decode cX10_phase 145 = .ok (.goto 10, 3) := by decide +kernel
theorem dX10_phase_148 : decode cX10_phase 148 = .ok (.aload_n 0, 1) := by decide +kernel
theorem dX10_phase_149 : decode cX10_phase 149 = .ok (.getfield 40, 3) := by decide +kernel
theorem dX10_phase_152 : decode cX10_phase 152 = .ok (.iload 4, 2) := by decide +kernel
theorem dX10_phase_154 : decode cX10_phase 154 = .ok (.iaload, 1) := by decide +kernel
theorem dX10_phase_155 : decode cX10_phase 155 = .ok (.iastore, 1) := by decide +kernel
theorem dX10_phase_156 : decode cX10_phase 156 = .ok (.iinc 4 1, 3) := by decide +kernel
theorem dX10_phase_159 : decode cX10_phase 159 = .ok (.goto (-72), 3) := by decide +kernel
theorem dX10_phase_162 : decode cX10_phase 162 = .ok (.return_, 1) := by decide +kernel
set_option maxRecDepth 20000 in
theorem ggX10_counts_X10_allDecided : GoodIn wsX10_counts wsX10_allDecided := goodIn_r _ [6, 7, 1, 40, 41, 42, 43, 44, 45, 46, 47, 48, 49, 50, 51, 52, 53, 54, 55, 56, 57, 58] (by decide +kernel) (by decide +kernel)
set_option maxRecDepth 20000 in
theorem gX10_counts_X10_allDecided : GoodIn wsX10_counts (wsV RX10 244 RX10 yX10_allDecided wsX10_allDecided) := goodIn_app (goodIn_of _ (by decide +kernel)) ggX10_counts_X10_allDecided
set_option maxRecDepth 20000 in
theorem ggX10_counts_X10_phase : GoodIn wsX10_counts wsX10_phase := goodIn_r _ [11, 7, 12, 1, 13, 14, 15, 5, 16, 17, 18, 19, 20, 21, 22, 23, 24, 25, 26, 27, 28, 29, 30, 31, 32, 33, 34, 35, 36, 37, 38, 39, 40, 41, 42, 43, 44, 45, 46, 47, 48, 49, 50, 51, 52, 53, 54, 55, 56, 57, 58] (by decide +kernel) (by decide +kernel)
set_option maxRecDepth 20000 in
theorem gX10_counts_X10_phase : GoodIn wsX10_counts (wsV RX10 247 RX10 yX10_phase wsX10_phase) := goodIn_app (goodIn_of _ (by decide +kernel)) ggX10_counts_X10_phase
theorem dX10_counts_0 : decode cX10_counts 0 = .ok (.iconst 0, 1) := by decide +kernel
theorem dX10_counts_1 : decode cX10_counts 1 = .ok (.istore_n 1, 1) := by decide +kernel
theorem dX10_counts_2 : decode cX10_counts 2 = .ok (.iload_n 1, 1) := by decide +kernel
theorem dX10_counts_3 : decode cX10_counts 3 = .ok (.bipush 8, 2) := by decide +kernel
theorem dX10_counts_5 : decode cX10_counts 5 = .ok (.if_icmp .ge 16, 3) := by decide +kernel
theorem dX10_counts_8 : decode cX10_counts 8 = .ok (.aload_n 0, 1) := by decide +kernel
theorem dX10_counts_9 : decode cX10_counts 9 = .ok (.getfield 40, 3) := by decide +kernel
theorem dX10_counts_12 : decode cX10_counts 12 = .ok (.iload_n 1, 1) := by decide +kernel
theorem dX10_counts_13 : decode cX10_counts 13 = .ok (.iconst 0, 1) := by decide +kernel
theorem dX10_counts_14 : decode cX10_counts 14 = .ok (.iastore, 1) := by decide +kernel
theorem dX10_counts_15 : decode cX10_counts 15 = .ok (.iinc 1 1, 3) := by decide +kernel
theorem dX10_counts_18 : decode cX10_counts 18 = .ok (.goto (-16), 3) := by decide +kernel
theorem dX10_counts_21 : decode cX10_counts 21 = .ok (.iconst 0, 1) := by decide +kernel
theorem dX10_counts_22 : decode cX10_counts 22 = .ok (.istore_n 1, 1) := by decide +kernel
theorem dX10_counts_23 : decode cX10_counts 23 = .ok (.iconst 1, 1) := by decide +kernel
theorem dX10_counts_24 : decode cX10_counts 24 = .ok (.istore_n 2, 1) := by decide +kernel
theorem dX10_counts_25 : decode cX10_counts 25 = .ok (.iload_n 2, 1) := by decide +kernel
theorem dX10_counts_26 : decode cX10_counts 26 = .ok (.bipush 9, 2) := by decide +kernel
theorem dX10_counts_28 : decode cX10_counts 28 = .ok (.if_icmp .ge 29, 3) := by decide +kernel
theorem dX10_counts_31 : decode cX10_counts 31 = .ok (.aload_n 0, 1) := by decide +kernel
theorem dX10_counts_32 : decode cX10_counts 32 = .ok (.invokevirtual 244, 3) := by decide +kernel
theorem dX10_counts_35 : decode cX10_counts 35 = .ok (.ifCond .ne 22, 3) := by decide +kernel
theorem dX10_counts_38 : decode cX10_counts 38 = .ok (.aload_n 0, 1) := by decide +kernel
theorem dX10_counts_39 : decode cX10_counts 39 = .ok (.iload_n 2, 1) := by decide +kernel
theorem dX10_counts_40 : decode cX10_counts 40 = .ok (.iload_n 1, 1) := by decide +kernel
theorem dX10_counts_41 : decode cX10_counts 41 = .ok (.invokevirtual 247, 3) := by decide +kernel
theorem dX10_counts_44 : decode cX10_counts 44 = .ok (.iload_n 1, 1) := by decide +kernel
theorem dX10_counts_45 : decode cX10_counts 45 = .ok (.iconst 2, 1) := by decide +kernel
theorem dX10_counts_46 : decode cX10_counts 46 = .ok (.iload_n 2, 1) := by decide +kernel
theorem dX10_counts_47 : decode cX10_counts 47 = .ok (.imul, 1) := by decide +kernel
theorem dX10_counts_48 : decode cX10_counts 48 = .ok (.iadd, 1) := by decide +kernel
theorem dX10_counts_49 : decode cX10_counts 49 = .ok (.istore_n 1, 1) := by decide +kernel
theorem dX10_counts_50 : decode cX10_counts 50 = .ok (.iload_n 2, 1) := by decide +kernel
theorem dX10_counts_51 : decode cX10_counts 51 = .ok (.iconst 2, 1) := by decide +kernel
theorem dX10_counts_52 : decode cX10_counts 52 = .ok (.imul, 1) := by decide +kernel
theorem dX10_counts_53 : decode cX10_counts 53 = .ok (.istore_n 2, 1) := by decide +kernel
theorem dX10_counts_54 : decode cX10_counts 54 = .ok (.goto (-29), 3) := by decide +kernel
theorem dX10_counts_57 : decode cX10_counts 57 = .ok (.iload_n 1, 1) := by decide +kernel
theorem dX10_counts_58 : decode cX10_counts 58 = .ok (.ireturn, 1) := by decide +kernel
set_option maxRecDepth 20000 in
theorem ggX10_counted_X10_isNode : GoodIn wsX10_counted wsX10_isNode := goodIn_r _ [6, 7, 8, 9, 5, 10, 51, 52, 53, 54, 55, 56, 57, 58, 59, 60, 61, 62, 63, 64, 65, 66, 67, 68, 69] (by decide +kernel) (by decide +kernel)
set_option maxRecDepth 20000 in
theorem gX10_counted_X10_isNode : GoodIn wsX10_counted (wsV RX10 55 RX10 yX10_isNode wsX10_isNode) := goodIn_app (goodIn_of _ (by decide +kernel)) ggX10_counted_X10_isNode
set_option maxRecDepth 20000 in
theorem ggX10_counted_X10_counts : GoodIn wsX10_counted wsX10_counts := goodIn_r _ [14, 1, 15, 16, 17, 5, 18, 7, 19, 20, 21, 22, 23, 24, 25, 26, 27, 28, 29, 30, 31, 32, 33, 34, 35, 36, 37, 38, 39, 40, 41, 42, 43, 44, 45, 46, 47, 48, 49, 50, 51, 52, 53, 54, 55, 56, 57, 58, 59, 60, 61, 62, 63, 64, 65, 66, 67, 68, 69] (by decide +kernel) (by decide +kernel)
set_option maxRecDepth 20000 in
theorem gX10_counted_X10_counts : GoodIn wsX10_counted (wsV RX10 250 RX10 yX10_counts wsX10_counts) := goodIn_app (goodIn_of _ (by decide +kernel)) ggX10_counted_X10_counts
theorem dX10_counted_0 : decode cX10_counted 0 = .ok (.aload_n 0, 1) := by decide +kernel
theorem dX10_counted_1 : decode cX10_counted 1 = .ok (.iload_n 1, 1) := by decide +kernel
theorem dX10_counted_2 : decode cX10_counted 2 = .ok (.invokevirtual 55, 3) := by decide +kernel
theorem dX10_counted_5 : decode cX10_counted 5 = .ok (.ifCond .ne 5, 3) := by decide +kernel
theorem dX10_counted_8 : decode cX10_counted 8 = .ok (.iconst (-1), 1) := by decide +kernel
theorem dX10_counted_9 : decode cX10_counted 9 = .ok (.ireturn, 1) := by decide +kernel
theorem dX10_counted_10 : decode cX10_counted 10 = .ok (.aload_n 0, 1) := by decide +kernel
theorem dX10_counted_11 : decode cX10_counted 11 = .ok (.invokevirtual 250, 3) := by decide +kernel
theorem dX10_counted_14 : decode cX10_counted 14 = .ok (.istore_n 2, 1) := by decide +kernel
theorem dX10_counted_15 : decode cX10_counted 15 = .ok (.iload_n 2, 1) := by decide +kernel
theorem dX10_counted_16 : decode cX10_counted 16 = .ok (.ifCond .ge 7, 3) := by decide +kernel
theorem dX10_counted_19 : decode cX10_counted 19 = .ok (.iload_n 2, 1) := by decide +kernel
theorem dX10_counted_20 : decode cX10_counted 20 = .ok (.goto 9, 3) := by decide +kernel
theorem dX10_counted_23 : decode cX10_counted 23 = .ok (.aload_n 0, 1) := by decide +kernel
theorem dX10_counted_24 : decode cX10_counted 24 = .ok (.getfield 40, 3) := by decide +kernel
theorem dX10_counted_27 : decode cX10_counted 27 = .ok (.iload_n 1, 1) := by decide +kernel
theorem dX10_counted_28 : decode cX10_counted 28 = .ok (.iaload, 1) := by decide +kernel
theorem dX10_counted_29 : decode cX10_counted 29 = .ok (.ireturn, 1) := by decide +kernel
set_option maxRecDepth 20000 in
theorem ggX10_countingSteps_X10_counts : GoodIn wsX10_countingSteps wsX10_counts := goodIn_r _ [5, 6, 7, 8, 9, 4, 10, 11, 12, 13, 14, 15, 16, 17, 18, 19, 20, 21, 22, 23, 24, 25, 26, 27, 28, 29, 30, 31, 32, 33, 34, 35, 36, 37, 38, 39, 40, 41, 42, 43, 44, 45, 46, 47, 48, 49, 50, 51, 52, 53, 54, 55, 56, 57, 58, 59, 60, 61, 62] (by decide +kernel) (by decide +kernel)
set_option maxRecDepth 20000 in
theorem gX10_countingSteps_X10_counts : GoodIn wsX10_countingSteps (wsV RX10 250 RX10 yX10_counts wsX10_counts) := goodIn_app (goodIn_of _ (by decide +kernel)) ggX10_countingSteps_X10_counts
theorem dX10_countingSteps_0 : decode cX10_countingSteps 0 = .ok (.aload_n 0, 1) := by decide +kernel
theorem dX10_countingSteps_1 : decode cX10_countingSteps 1 = .ok (.invokevirtual 250, 3) := by decide +kernel
theorem dX10_countingSteps_4 : decode cX10_countingSteps 4 = .ok (.ireturn, 1) := by decide +kernel
set_option maxRecDepth 20000 in
theorem ggX10_wrongCounts_X10_counts : GoodIn wsX10_wrongCounts wsX10_counts := goodIn_r _ [7, 2, 8, 9, 10, 6, 11, 1, 12, 13, 14, 15, 16, 17, 18, 19, 20, 21, 22, 23, 24, 25, 26, 27, 28, 29, 30, 31, 32, 33, 34, 35, 36, 37, 38, 39, 40, 41, 42, 43, 44, 45, 46, 47, 48, 49, 50, 51, 52, 53, 54, 55, 56, 57, 58, 59, 60, 61, 62] (by decide +kernel) (by decide +kernel)
set_option maxRecDepth 20000 in
theorem gX10_wrongCounts_X10_counts : GoodIn wsX10_wrongCounts (wsV RX10 250 RX10 yX10_counts wsX10_counts) := goodIn_app (goodIn_of _ (by decide +kernel)) ggX10_wrongCounts_X10_counts
theorem dX10_wrongCounts_0 : decode cX10_wrongCounts 0 = .ok (.aload_n 0, 1) := by decide +kernel
theorem dX10_wrongCounts_1 : decode cX10_wrongCounts 1 = .ok (.invokevirtual 250, 3) := by decide +kernel
theorem dX10_wrongCounts_4 : decode cX10_wrongCounts 4 = .ok (.ifCond .ge 7, 3) := by decide +kernel
theorem dX10_wrongCounts_7 : decode cX10_wrongCounts 7 = .ok (.iconst 1, 1) := by decide +kernel
theorem dX10_wrongCounts_8 : decode cX10_wrongCounts 8 = .ok (.goto 4, 3) := by decide +kernel
theorem dX10_wrongCounts_11 : decode cX10_wrongCounts 11 = .ok (.iconst 0, 1) := by decide +kernel
theorem dX10_wrongCounts_12 : decode cX10_wrongCounts 12 = .ok (.istore_n 1, 1) := by decide +kernel
theorem dX10_wrongCounts_13 : decode cX10_wrongCounts 13 = .ok (.iconst 0, 1) := by decide +kernel
theorem dX10_wrongCounts_14 : decode cX10_wrongCounts 14 = .ok (.istore_n 2, 1) := by decide +kernel
theorem dX10_wrongCounts_15 : decode cX10_wrongCounts 15 = .ok (.iload_n 2, 1) := by decide +kernel
theorem dX10_wrongCounts_16 : decode cX10_wrongCounts 16 = .ok (.aload_n 0, 1) := by decide +kernel
theorem dX10_wrongCounts_17 : decode cX10_wrongCounts 17 = .ok (.getfield 7, 3) := by decide +kernel
theorem dX10_wrongCounts_20 : decode cX10_wrongCounts 20 = .ok (.iconst 0, 1) := by decide +kernel
theorem dX10_wrongCounts_21 : decode cX10_wrongCounts 21 = .ok (.iaload, 1) := by decide +kernel
theorem dX10_wrongCounts_22 : decode cX10_wrongCounts 22 = .ok (.if_icmp .ge 32, 3) := by decide +kernel
theorem dX10_wrongCounts_25 : decode cX10_wrongCounts 25 = .ok (.iload_n 1, 1) := by decide +kernel
theorem dX10_wrongCounts_26 : decode cX10_wrongCounts 26 = .ok (.aload_n 0, 1) := by decide +kernel
theorem dX10_wrongCounts_27 : decode cX10_wrongCounts 27 = .ok (.getfield 40, 3) := by decide +kernel
theorem dX10_wrongCounts_30 : decode cX10_wrongCounts 30 = .ok (.iload_n 2, 1) := by decide +kernel
theorem dX10_wrongCounts_31 : decode cX10_wrongCounts 31 = .ok (.iaload, 1) := by decide +kernel
theorem dX10_wrongCounts_32 : decode cX10_wrongCounts 32 = .ok (.aload_n 0, 1) := by decide +kernel
theorem dX10_wrongCounts_33 : decode cX10_wrongCounts 33 = .ok (.getfield 7, 3) := by decide +kernel
theorem dX10_wrongCounts_36 : decode cX10_wrongCounts 36 = .ok (.iconst 0, 1) := by decide +kernel
theorem dX10_wrongCounts_37 : decode cX10_wrongCounts 37 = .ok (.iaload, 1) := by decide +kernel
theorem dX10_wrongCounts_38 : decode cX10_wrongCounts 38 = .ok (.if_icmp .ne 7, 3) := by decide +kernel
theorem dX10_wrongCounts_41 : decode cX10_wrongCounts 41 = .ok (.iconst 0, 1) := by decide +kernel
theorem dX10_wrongCounts_42 : decode cX10_wrongCounts 42 = .ok (.goto 4, 3) := by decide +kernel
theorem dX10_wrongCounts_45 : decode cX10_wrongCounts 45 = .ok (.iconst 1, 1) := by decide +kernel
theorem dX10_wrongCounts_46 : decode cX10_wrongCounts 46 = .ok (.iadd, 1) := by decide +kernel
theorem dX10_wrongCounts_47 : decode cX10_wrongCounts 47 = .ok (.istore_n 1, 1) := by decide +kernel
theorem dX10_wrongCounts_48 : decode cX10_wrongCounts 48 = .ok (.iinc 2 1, 3) := by decide +kernel
theorem dX10_wrongCounts_51 : decode cX10_wrongCounts 51 = .ok (.goto (-36), 3) := by decide +kernel
theorem dX10_wrongCounts_54 : decode cX10_wrongCounts 54 = .ok (.iload_n 1, 1) := by decide +kernel
theorem dX10_wrongCounts_55 : decode cX10_wrongCounts 55 = .ok (.ireturn, 1) := by decide +kernel
theorem dX10_undo_0 : decode cX10_undo 0 = .ok (.aload_n 0, 1) := by decide +kernel
theorem dX10_undo_1 : decode cX10_undo 1 = .ok (.getfield 47, 3) := by decide +kernel
theorem dX10_undo_4 : decode cX10_undo 4 = .ok (.ifCond .ne 6, 3) := by decide +kernel
theorem dX10_undo_7 : decode cX10_undo 7 = .ok (.bipush (-2), 2) := by decide +kernel
theorem dX10_undo_9 : decode cX10_undo 9 = .ok (.ireturn, 1) := by decide +kernel
theorem dX10_undo_10 : decode cX10_undo 10 = .ok (.aload_n 0, 1) := by decide +kernel
theorem dX10_undo_11 : decode cX10_undo 11 = .ok (.dup, 1) := by decide +kernel
theorem dX10_undo_12 : decode cX10_undo 12 = .ok (.getfield 47, 3) := by decide +kernel
theorem dX10_undo_15 : decode cX10_undo 15 = .ok (.iconst 1, 1) := by decide +kernel
theorem dX10_undo_16 : decode cX10_undo 16 = .ok (.isub, 1) := by decide +kernel
theorem dX10_undo_17 : decode cX10_undo 17 = .ok (.putfield 47, 3) := by decide +kernel
theorem dX10_undo_20 : decode cX10_undo 20 = .ok (.iconst 0, 1) := by decide +kernel
theorem dX10_undo_21 : decode cX10_undo 21 = .ok (.istore_n 1, 1) := by decide +kernel
theorem dX10_undo_22 : decode cX10_undo 22 = .ok (.iload_n 1, 1) := by decide +kernel
theorem dX10_undo_23 : decode cX10_undo 23 = .ok (.bipush 26, 2) := by decide +kernel
theorem dX10_undo_25 : decode cX10_undo 25 = .ok (.if_icmp .ge 29, 3) := by decide +kernel
theorem dX10_undo_28 : decode cX10_undo 28 = .ok (.aload_n 0, 1) := by decide +kernel
theorem dX10_undo_29 : decode cX10_undo 29 = .ok (.getfield 7, 3) := by decide +kernel
theorem dX10_undo_32 : decode cX10_undo 32 = .ok (.iload_n 1, 1) := by decide +kernel
theorem dX10_undo_33 : decode cX10_undo 33 = .ok (.aload_n 0, 1) := by decide +kernel
theorem dX10_undo_34 : decode cX10_undo 34 = .ok (.getfield 13, 3) := by decide +kernel
theorem dX10_undo_37 : decode cX10_undo 37 = .ok (.bipush 26, 2) := by decide +kernel
theorem dX10_undo_39 : decode cX10_undo 39 = .ok (.aload_n 0, 1) := by decide +kernel
theorem dX10_undo_40 : decode cX10_undo 40 = .ok (.getfield 47, 3) := by decide +kernel
theorem dX10_undo_43 : decode cX10_undo 43 = .ok (.imul, 1) := by decide +kernel
theorem dX10_undo_44 : decode cX10_undo 44 = .ok (.iload_n 1, 1) := by decide +kernel
theorem dX10_undo_45 : decode cX10_undo 45 = .ok (.iadd, 1) := by decide +kernel
theorem dX10_undo_46 : decode cX10_undo 46 = .ok (.iaload, 1) := by decide +kernel
theorem dX10_undo_47 : decode cX10_undo 47 = .ok (.iastore, 1) := by decide +kernel
theorem dX10_undo_48 : decode cX10_undo 48 = .ok (.iinc 1 1, 3) := by decide +kernel
theorem dX10_undo_51 : decode cX10_undo 51 = .ok (.goto (-29), 3) := by decide +kernel
theorem dX10_undo_54 : decode cX10_undo 54 = .ok (.aload_n 0, 1) := by decide +kernel
theorem dX10_undo_55 : decode cX10_undo 55 = .ok (.getfield 47, 3) := by decide +kernel
theorem dX10_undo_58 : decode cX10_undo 58 = .ok (.ireturn, 1) := by decide +kernel
theorem dJ6_bitCount_0f7a4_0 : decode cJ6_bitCount_0f7a4 0 = .ok (.iload_n 0, 1) := by decide +kernel
theorem dJ6_bitCount_0f7a4_1 : decode cJ6_bitCount_0f7a4 1 = .ok (.iload_n 0, 1) := by decide +kernel
theorem dJ6_bitCount_0f7a4_2 : decode cJ6_bitCount_0f7a4 2 = .ok (.iconst 1, 1) := by decide +kernel
theorem dJ6_bitCount_0f7a4_3 : decode cJ6_bitCount_0f7a4 3 = .ok (.iushr, 1) := by decide +kernel
theorem dJ6_bitCount_0f7a4_4 : decode cJ6_bitCount_0f7a4 4 = .ok (.ldc_w 265, 3) := by decide +kernel
theorem dJ6_bitCount_0f7a4_7 : decode cJ6_bitCount_0f7a4 7 = .ok (.iand, 1) := by decide +kernel
theorem dJ6_bitCount_0f7a4_8 : decode cJ6_bitCount_0f7a4 8 = .ok (.isub, 1) := by decide +kernel
theorem dJ6_bitCount_0f7a4_9 : decode cJ6_bitCount_0f7a4 9 = .ok (.istore_n 0, 1) := by decide +kernel
theorem dJ6_bitCount_0f7a4_10 : decode cJ6_bitCount_0f7a4 10 = .ok (.iload_n 0, 1) := by decide +kernel
theorem dJ6_bitCount_0f7a4_11 : decode cJ6_bitCount_0f7a4 11 = .ok (.ldc_w 266, 3) := by decide +kernel
theorem dJ6_bitCount_0f7a4_14 : decode cJ6_bitCount_0f7a4 14 = .ok (.iand, 1) := by decide +kernel
theorem dJ6_bitCount_0f7a4_15 : decode cJ6_bitCount_0f7a4 15 = .ok (.iload_n 0, 1) := by decide +kernel
theorem dJ6_bitCount_0f7a4_16 : decode cJ6_bitCount_0f7a4 16 = .ok (.iconst 2, 1) := by decide +kernel
theorem dJ6_bitCount_0f7a4_17 : decode cJ6_bitCount_0f7a4 17 = .ok (.iushr, 1) := by decide +kernel
theorem dJ6_bitCount_0f7a4_18 : decode cJ6_bitCount_0f7a4 18 = .ok (.ldc_w 266, 3) := by decide +kernel
theorem dJ6_bitCount_0f7a4_21 : decode cJ6_bitCount_0f7a4 21 = .ok (.iand, 1) := by decide +kernel
theorem dJ6_bitCount_0f7a4_22 : decode cJ6_bitCount_0f7a4 22 = .ok (.iadd, 1) := by decide +kernel
theorem dJ6_bitCount_0f7a4_23 : decode cJ6_bitCount_0f7a4 23 = .ok (.istore_n 0, 1) := by decide +kernel
theorem dJ6_bitCount_0f7a4_24 : decode cJ6_bitCount_0f7a4 24 = .ok (.iload_n 0, 1) := by decide +kernel
theorem dJ6_bitCount_0f7a4_25 : decode cJ6_bitCount_0f7a4 25 = .ok (.iload_n 0, 1) := by decide +kernel
theorem dJ6_bitCount_0f7a4_26 : decode cJ6_bitCount_0f7a4 26 = .ok (.iconst 4, 1) := by decide +kernel
theorem dJ6_bitCount_0f7a4_27 : decode cJ6_bitCount_0f7a4 27 = .ok (.iushr, 1) := by decide +kernel
theorem dJ6_bitCount_0f7a4_28 : decode cJ6_bitCount_0f7a4 28 = .ok (.iadd, 1) := by decide +kernel
theorem dJ6_bitCount_0f7a4_29 : decode cJ6_bitCount_0f7a4 29 = .ok (.ldc_w 267, 3) := by decide +kernel
theorem dJ6_bitCount_0f7a4_32 : decode cJ6_bitCount_0f7a4 32 = .ok (.iand, 1) := by decide +kernel
theorem dJ6_bitCount_0f7a4_33 : decode cJ6_bitCount_0f7a4 33 = .ok (.istore_n 0, 1) := by decide +kernel
theorem dJ6_bitCount_0f7a4_34 : decode cJ6_bitCount_0f7a4 34 = .ok (.iload_n 0, 1) := by decide +kernel
theorem dJ6_bitCount_0f7a4_35 : decode cJ6_bitCount_0f7a4 35 = .ok (.iload_n 0, 1) := by decide +kernel
theorem dJ6_bitCount_0f7a4_36 : decode cJ6_bitCount_0f7a4 36 = .ok (.bipush 8, 2) := by decide +kernel
theorem dJ6_bitCount_0f7a4_38 : decode cJ6_bitCount_0f7a4 38 = .ok (.iushr, 1) := by decide +kernel
theorem dJ6_bitCount_0f7a4_39 : decode cJ6_bitCount_0f7a4 39 = .ok (.iadd, 1) := by decide +kernel
theorem dJ6_bitCount_0f7a4_40 : decode cJ6_bitCount_0f7a4 40 = .ok (.istore_n 0, 1) := by decide +kernel
theorem dJ6_bitCount_0f7a4_41 : decode cJ6_bitCount_0f7a4 41 = .ok (.iload_n 0, 1) := by decide +kernel
theorem dJ6_bitCount_0f7a4_42 : decode cJ6_bitCount_0f7a4 42 = .ok (.iload_n 0, 1) := by decide +kernel
theorem dJ6_bitCount_0f7a4_43 : decode cJ6_bitCount_0f7a4 43 = .ok (.bipush 16, 2) := by decide +kernel
theorem dJ6_bitCount_0f7a4_45 : decode cJ6_bitCount_0f7a4 45 = .ok (.iushr, 1) := by decide +kernel
theorem dJ6_bitCount_0f7a4_46 : decode cJ6_bitCount_0f7a4 46 = .ok (.iadd, 1) := by decide +kernel
theorem dJ6_bitCount_0f7a4_47 : decode cJ6_bitCount_0f7a4 47 = .ok (.istore_n 0, 1) := by decide +kernel
theorem dJ6_bitCount_0f7a4_48 : decode cJ6_bitCount_0f7a4 48 = .ok (.iload_n 0, 1) := by decide +kernel
theorem dJ6_bitCount_0f7a4_49 : decode cJ6_bitCount_0f7a4 49 = .ok (.bipush 63, 2) := by decide +kernel
theorem dJ6_bitCount_0f7a4_51 : decode cJ6_bitCount_0f7a4 51 = .ok (.iand, 1) := by decide +kernel
theorem dJ6_bitCount_0f7a4_52 : decode cJ6_bitCount_0f7a4 52 = .ok (.ireturn, 1) := by decide +kernel
theorem dJ9_max_7cf53_0 : decode cJ9_max_7cf53 0 = .ok (.iload_n 0, 1) := by decide +kernel
theorem dJ9_max_7cf53_1 : decode cJ9_max_7cf53 1 = .ok (.iload_n 1, 1) := by decide +kernel
theorem dJ9_max_7cf53_2 : decode cJ9_max_7cf53 2 = .ok (.if_icmp .lt 7, 3) := by decide +kernel
theorem dJ9_max_7cf53_5 : decode cJ9_max_7cf53 5 = .ok (.iload_n 0, 1) := by decide +kernel
theorem dJ9_max_7cf53_6 : decode cJ9_max_7cf53 6 = .ok (.goto 4, 3) := by decide +kernel
theorem dJ9_max_7cf53_9 : decode cJ9_max_7cf53 9 = .ok (.iload_n 1, 1) := by decide +kernel
theorem dJ9_max_7cf53_10 : decode cJ9_max_7cf53 10 = .ok (.ireturn, 1) := by decide +kernel
theorem dJ9_min_7cf53_0 : decode cJ9_min_7cf53 0 = .ok (.iload_n 0, 1) := by decide +kernel
theorem dJ9_min_7cf53_1 : decode cJ9_min_7cf53 1 = .ok (.iload_n 1, 1) := by decide +kernel
theorem dJ9_min_7cf53_2 : decode cJ9_min_7cf53 2 = .ok (.if_icmp .gt 7, 3) := by decide +kernel
theorem dJ9_min_7cf53_5 : decode cJ9_min_7cf53 5 = .ok (.iload_n 0, 1) := by decide +kernel
theorem dJ9_min_7cf53_6 : decode cJ9_min_7cf53 6 = .ok (.goto 4, 3) := by decide +kernel
theorem dJ9_min_7cf53_9 : decode cJ9_min_7cf53 9 = .ok (.iload_n 1, 1) := by decide +kernel
theorem dJ9_min_7cf53_10 : decode cJ9_min_7cf53 10 = .ok (.ireturn, 1) := by decide +kernel
set_option maxRecDepth 20000 in
theorem ggJ0_length_8abf5_J0_coder_7d493 : GoodIn wsJ0_length_8abf5 wsJ0_coder_7d493 := goodIn_r _ [6, 7, 8] (by decide +kernel) (by decide +kernel)
set_option maxRecDepth 20000 in
theorem gJ0_length_8abf5_J0_coder_7d493 : GoodIn wsJ0_length_8abf5 (wsV RJ0 335 RJ0 yJ0_coder_7d493 wsJ0_coder_7d493) := goodIn_app (goodIn_of _ (by decide +kernel)) ggJ0_length_8abf5_J0_coder_7d493
theorem dJ0_length_8abf5_0 : decode cJ0_length_8abf5 0 = .ok (.aload_n 0, 1) := by decide +kernel
theorem dJ0_length_8abf5_1 : decode cJ0_length_8abf5 1 = .ok (.getfield 9, 3) := by decide +kernel
theorem dJ0_length_8abf5_4 : decode cJ0_length_8abf5 4 = .ok (.arraylength, 1) := by decide +kernel
theorem dJ0_length_8abf5_5 : decode cJ0_length_8abf5 5 = .ok (.aload_n 0, 1) := by decide +kernel
theorem dJ0_length_8abf5_6 : decode cJ0_length_8abf5 6 = .ok (.invokevirtual 335, 3) := by decide +kernel
theorem dJ0_length_8abf5_9 : decode cJ0_length_8abf5 9 = .ok (.ishr, 1) := by decide +kernel
theorem dJ0_length_8abf5_10 : decode cJ0_length_8abf5 10 = .ok (.ireturn, 1) := by decide +kernel
set_option maxRecDepth 20000 in
theorem ggJ0_charAt_5068e_J0_isLatin1_aae02 : GoodIn wsJ0_charAt_5068e wsJ0_isLatin1_aae02 := goodIn_r _ [6, 7, 8] (by decide +kernel) (by decide +kernel)
set_option maxRecDepth 20000 in
theorem gJ0_charAt_5068e_J0_isLatin1_aae02 : GoodIn wsJ0_charAt_5068e (wsV RJ0 492 RJ0 yJ0_isLatin1_aae02 wsJ0_isLatin1_aae02) := goodIn_app (goodIn_of _ (by decide +kernel)) ggJ0_charAt_5068e_J0_isLatin1_aae02
set_option maxRecDepth 20000 in
theorem ggJ0_charAt_5068e_J1_charAt_3b067 : GoodIn wsJ0_charAt_5068e wsJ1_charAt_3b067 := goodIn_r _ [12, 13, 14, 5, 15, 16, 17, 18, 19, 20] (by decide +kernel) (by decide +kernel)
set_option maxRecDepth 20000 in
theorem gJ0_charAt_5068e_J1_charAt_3b067 : GoodIn wsJ0_charAt_5068e (va_wsS RJ0 495 yJ1_charAt_3b067 wsJ1_charAt_3b067) := goodIn_app (goodIn_of _ (by decide +kernel)) ggJ0_charAt_5068e_J1_charAt_3b067
set_option maxRecDepth 20000 in
theorem ggJ0_charAt_5068e_J2_charAt_3b067 : GoodIn wsJ0_charAt_5068e wsJ2_charAt_3b067 := goodIn_r _ [24, 25, 26, 23, 27, 28, 29, 30, 31, 14, 5, 15, 16, 17, 18, 19, 20, 32, 33, 34, 35, 36, 37] (by decide +kernel) (by decide +kernel)
set_option maxRecDepth 20000 in
theorem gJ0_charAt_5068e_J2_charAt_3b067 : GoodIn wsJ0_charAt_5068e (va_wsS RJ0 498 yJ2_charAt_3b067 wsJ2_charAt_3b067) := goodIn_app (goodIn_of _ (by decide +kernel)) ggJ0_charAt_5068e_J2_charAt_3b067
theorem dJ0_charAt_5068e_0 : decode cJ0_charAt_5068e 0 = .ok (.aload_n 0, 1) := by decide +kernel
theorem dJ0_charAt_5068e_1 : decode cJ0_charAt_5068e 1 = .ok (.invokevirtual 492, 3) := by decide +kernel
theorem dJ0_charAt_5068e_4 : decode cJ0_charAt_5068e 4 = .ok (.ifCond .eq 12, 3) := by decide +kernel
theorem dJ0_charAt_5068e_7 : decode cJ0_charAt_5068e 7 = .ok (.aload_n 0, 1) := by decide +kernel
theorem dJ0_charAt_5068e_8 : decode cJ0_charAt_5068e 8 = .ok (.getfield 9, 3) := by decide +kernel
theorem dJ0_charAt_5068e_11 : decode cJ0_charAt_5068e 11 = .ok (.iload_n 1, 1) := by decide +kernel
theorem dJ0_charAt_5068e_12 : decode cJ0_charAt_5068e 12 = .ok (.invokestatic 495, 3) := by decide +kernel
theorem dJ0_charAt_5068e_15 : decode cJ0_charAt_5068e 15 = .ok (.ireturn, 1) := by decide +kernel
theorem dJ0_charAt_5068e_16 : decode cJ0_charAt_5068e 16 = .ok (.aload_n 0, 1) := by decide +kernel
theorem dJ0_charAt_5068e_17 : decode cJ0_charAt_5068e 17 = .ok (.getfield 9, 3) := by decide +kernel
theorem dJ0_charAt_5068e_20 : decode cJ0_charAt_5068e 20 = .ok (.iload_n 1, 1) := by decide +kernel
theorem dJ0_charAt_5068e_21 : decode cJ0_charAt_5068e 21 = .ok (.invokestatic 498, 3) := by decide +kernel
theorem dJ0_charAt_5068e_24 : decode cJ0_charAt_5068e 24 = .ok (.ireturn, 1) := by decide +kernel
theorem dJ0_coder_7d493_0 : decode cJ0_coder_7d493 0 = .ok (.getstatic 38, 3) := by decide +kernel
theorem dJ0_coder_7d493_3 : decode cJ0_coder_7d493 3 = .ok (.ifCond .eq 10, 3) := by decide +kernel
theorem dJ0_coder_7d493_6 : decode cJ0_coder_7d493 6 = .ok (.aload_n 0, 1) := by decide +kernel
theorem dJ0_coder_7d493_7 : decode cJ0_coder_7d493 7 = .ok (.getfield 15, 3) := by decide +kernel
theorem dJ0_coder_7d493_10 : decode cJ0_coder_7d493 10 = .ok (.goto 4, 3) := by decide +kernel
theorem dJ0_coder_7d493_13 : decode cJ0_coder_7d493 13 = .ok (.iconst 1, 1) := by decide +kernel
theorem dJ0_coder_7d493_14 : decode cJ0_coder_7d493 14 = .ok (.ireturn, 1) := by decide +kernel
theorem dJ0_isLatin1_aae02_0 : decode cJ0_isLatin1_aae02 0 = .ok (.getstatic 38, 3) := by decide +kernel
theorem dJ0_isLatin1_aae02_3 : decode cJ0_isLatin1_aae02 3 = .ok (.ifCond .eq 14, 3) := by decide +kernel
theorem dJ0_isLatin1_aae02_6 : decode cJ0_isLatin1_aae02 6 = .ok (.aload_n 0, 1) := by decide +kernel
theorem dJ0_isLatin1_aae02_7 : decode cJ0_isLatin1_aae02 7 = .ok (.getfield 15, 3) := by decide +kernel
theorem dJ0_isLatin1_aae02_10 : decode cJ0_isLatin1_aae02 10 = .ok (.ifCond .ne 7, 3) := by decide +kernel
theorem dJ0_isLatin1_aae02_13 : decode cJ0_isLatin1_aae02 13 = .ok (.iconst 1, 1) := by decide +kernel
theorem dJ0_isLatin1_aae02_14 : decode cJ0_isLatin1_aae02 14 = .ok (.goto 4, 3) := by decide +kernel
theorem dJ0_isLatin1_aae02_17 : decode cJ0_isLatin1_aae02 17 = .ok (.iconst 0, 1) := by decide +kernel
theorem dJ0_isLatin1_aae02_18 : decode cJ0_isLatin1_aae02 18 = .ok (.ireturn, 1) := by decide +kernel
set_option maxRecDepth 20000 in
theorem ggJ0_checkIndex_df160_J3_checkIndex_8e157 : GoodIn wsJ0_checkIndex_df160 wsJ3_checkIndex_8e157 := goodIn_r _ [5] (by decide +kernel) (by decide +kernel)
set_option maxRecDepth 20000 in
theorem gJ0_checkIndex_df160_J3_checkIndex_8e157 : GoodIn wsJ0_checkIndex_df160 (va_wsS RJ0 1059 yJ3_checkIndex_8e157 wsJ3_checkIndex_8e157) := goodIn_app (goodIn_of _ (by decide +kernel)) ggJ0_checkIndex_df160_J3_checkIndex_8e157
theorem dJ0_checkIndex_df160_0 : decode cJ0_checkIndex_df160 0 = .ok (.iload_n 0, 1) := by decide +kernel
theorem dJ0_checkIndex_df160_1 : decode cJ0_checkIndex_df160 1 = .ok (.iload_n 1, 1) := by decide +kernel
theorem dJ0_checkIndex_df160_2 : decode cJ0_checkIndex_df160 2 = .ok (.getstatic 1053, 3) := by decide +kernel
theorem dJ0_checkIndex_df160_5 : decode cJ0_checkIndex_df160 5 = .ok (.invokestatic 1059, 3) := by decide +kernel
theorem dJ0_checkIndex_df160_8 : decode cJ0_checkIndex_df160 8 = .ok (.pop, 1) := by decide +kernel
theorem dJ0_checkIndex_df160_9 : decode cJ0_checkIndex_df160 9 = .ok (.return_, 1) := by decide +kernel
set_option maxRecDepth 20000 in
theorem ggJ1_charAt_3b067_J0_checkIndex_df160 : GoodIn wsJ1_charAt_3b067 wsJ0_checkIndex_df160 := goodIn_r _ [4, 5, 6, 7, 8, 9] (by decide +kernel) (by decide +kernel)
set_option maxRecDepth 20000 in
theorem gJ1_charAt_3b067_J0_checkIndex_df160 : GoodIn wsJ1_charAt_3b067 (va_wsS RJ1 9 yJ0_checkIndex_df160 wsJ0_checkIndex_df160) := goodIn_app (goodIn_of _ (by decide +kernel)) ggJ1_charAt_3b067_J0_checkIndex_df160
theorem dJ1_charAt_3b067_0 : decode cJ1_charAt_3b067 0 = .ok (.iload_n 1, 1) := by decide +kernel
theorem dJ1_charAt_3b067_1 : decode cJ1_charAt_3b067 1 = .ok (.aload_n 0, 1) := by decide +kernel
theorem dJ1_charAt_3b067_2 : decode cJ1_charAt_3b067 2 = .ok (.arraylength, 1) := by decide +kernel
theorem dJ1_charAt_3b067_3 : decode cJ1_charAt_3b067 3 = .ok (.invokestatic 9, 3) := by decide +kernel
theorem dJ1_charAt_3b067_6 : decode cJ1_charAt_3b067 6 = .ok (.aload_n 0, 1) := by decide +kernel
theorem dJ1_charAt_3b067_7 : decode cJ1_charAt_3b067 7 = .ok (.iload_n 1, 1) := by decide +kernel
theorem dJ1_charAt_3b067_8 : decode cJ1_charAt_3b067 8 = .ok (.baload, 1) := by decide +kernel
theorem dJ1_charAt_3b067_9 : decode cJ1_charAt_3b067 9 = .ok (.sipush 255, 3) := by decide +kernel
theorem dJ1_charAt_3b067_12 : decode cJ1_charAt_3b067 12 = .ok (.iand, 1) := by decide +kernel
theorem dJ1_charAt_3b067_13 : decode cJ1_charAt_3b067 13 = .ok (.i2c, 1) := by decide +kernel
theorem dJ1_charAt_3b067_14 : decode cJ1_charAt_3b067 14 = .ok (.ireturn, 1) := by decide +kernel
set_option maxRecDepth 20000 in
theorem ggJ2_getChar_3b067_J2_length_9d52b : GoodIn wsJ2_getChar_3b067 wsJ2_length_9d52b := goodIn_r _ [7] (by decide +kernel) (by decide +kernel)
set_option maxRecDepth 20000 in
theorem gJ2_getChar_3b067_J2_length_9d52b : GoodIn wsJ2_getChar_3b067 (va_wsS RJ2 48 yJ2_length_9d52b wsJ2_length_9d52b) := goodIn_app (goodIn_of _ (by decide +kernel)) ggJ2_getChar_3b067_J2_length_9d52b
theorem dJ2_getChar_3b067_0 : decode cJ2_getChar_3b067 0 = .ok (.getstatic 44, 3) := by decide +kernel
theorem dJ2_getChar_3b067_3 : decode cJ2_getChar_3b067 3 = .ok (.ifCond .ne 25, 3) := by decide +kernel
theorem dJ2_getChar_3b067_6 : decode cJ2_getChar_3b067 6 = .ok (.iload_n 1, 1) := by decide +kernel
theorem dJ2_getChar_3b067_7 : decode cJ2_getChar_3b067 7 = .ok (.ifCond .lt 11, 3) := by decide +kernel
theorem dJ2_getChar_3b067_10 : decode cJ2_getChar_3b067 10 = .ok (.iload_n 1, 1) := by decide +kernel
theorem dJ2_getChar_3b067_11 : decode cJ2_getChar_3b067 11 = .ok (.aload_n 0, 1) := by decide +kernel
theorem dJ2_getChar_3b067_12 : decode cJ2_getChar_3b067 12 = .ok (.invokestatic 48, 3) := by decide +kernel
theorem dJ2_getChar_3b067_15 : decode cJ2_getChar_3b067 15 = .ok (.if_icmp .lt 13, 3) := by decide +kernel
theorem dJ2_getChar_3b067_18 : decode cJ2_getChar_3b067 18 = .ok (.new 52, 3) := by decide +kernel
theorem dJ2_getChar_3b067_21 : decode cJ2_getChar_3b067 21 = .ok (.dup, 1) := by decide +kernel
theorem dJ2_getChar_3b067_22 : decode cJ2_getChar_3b067 22 = .ok (.ldc 54, 2) := by decide +kernel
theorem dJ2_getChar_3b067_24 : decode cJ2_getChar_3b067 24 = .ok (.invokespecial 56, 3) := by decide +kernel
theorem dJ2_getChar_3b067_27 : decode cJ2_getChar_3b067 27 = .ok (.athrow, 1) := by decide +kernel
theorem dJ2_getChar_3b067_28 : decode cJ2_getChar_3b067 28 = .ok (.iload_n 1, 1) := by decide +kernel
theorem dJ2_getChar_3b067_29 : decode cJ2_getChar_3b067 29 = .ok (.iconst 1, 1) := by decide +kernel
theorem dJ2_getChar_3b067_30 : decode cJ2_getChar_3b067 30 = .ok (.ishl, 1) := by decide +kernel
theorem dJ2_getChar_3b067_31 : decode cJ2_getChar_3b067 31 = .ok (.istore_n 1, 1) := by decide +kernel
theorem dJ2_getChar_3b067_32 : decode cJ2_getChar_3b067 32 = .ok (.aload_n 0, 1) := by decide +kernel
theorem dJ2_getChar_3b067_33 : decode cJ2_getChar_3b067 33 = .ok (.iload_n 1, 1) := by decide +kernel
theorem dJ2_getChar_3b067_34 : decode cJ2_getChar_3b067 34 = .ok (.iinc 1 1, 3) := by decide +kernel
theorem dJ2_getChar_3b067_37 : decode cJ2_getChar_3b067 37 = .ok (.baload, 1) := by decide +kernel
theorem dJ2_getChar_3b067_38 : decode cJ2_getChar_3b067 38 = .ok (.sipush 255, 3) := by decide +kernel
theorem dJ2_getChar_3b067_41 : decode cJ2_getChar_3b067 41 = .ok (.iand, 1) := by decide +kernel
theorem dJ2_getChar_3b067_42 : decode cJ2_getChar_3b067 42 = .ok (.getstatic 59, 3) := by decide +kernel
theorem dJ2_getChar_3b067_45 : decode cJ2_getChar_3b067 45 = .ok (.ishl, 1) := by decide +kernel
theorem dJ2_getChar_3b067_46 : decode cJ2_getChar_3b067 46 = .ok (.aload_n 0, 1) := by decide +kernel
theorem dJ2_getChar_3b067_47 : decode cJ2_getChar_3b067 47 = .ok (.iload_n 1, 1) := by decide +kernel
theorem dJ2_getChar_3b067_48 : decode cJ2_getChar_3b067 48 = .ok (.baload, 1) := by decide +kernel
theorem dJ2_getChar_3b067_49 : decode cJ2_getChar_3b067 49 = .ok (.sipush 255, 3) := by decide +kernel
theorem dJ2_getChar_3b067_52 : decode cJ2_getChar_3b067 52 = .ok (.iand, 1) := by decide +kernel
theorem dJ2_getChar_3b067_53 : decode cJ2_getChar_3b067 53 = .ok (.getstatic 63, 3) := by decide +kernel
theorem dJ2_getChar_3b067_56 : decode cJ2_getChar_3b067 56 = .ok (.ishl, 1) := by decide +kernel
theorem dJ2_getChar_3b067_57 : decode cJ2_getChar_3b067 57 = .ok (.ior, 1) := by decide +kernel
theorem dJ2_getChar_3b067_58 : decode cJ2_getChar_3b067 58 = .ok (.i2c, 1) := by decide +kernel
theorem dJ2_getChar_3b067_59 : decode cJ2_getChar_3b067 59 = .ok (.ireturn, 1) := by decide +kernel
theorem dJ2_length_9d52b_0 : decode cJ2_length_9d52b 0 = .ok (.aload_n 0, 1) := by decide +kernel
theorem dJ2_length_9d52b_1 : decode cJ2_length_9d52b 1 = .ok (.arraylength, 1) := by decide +kernel
theorem dJ2_length_9d52b_2 : decode cJ2_length_9d52b 2 = .ok (.iconst 1, 1) := by decide +kernel
theorem dJ2_length_9d52b_3 : decode cJ2_length_9d52b 3 = .ok (.ishr, 1) := by decide +kernel
theorem dJ2_length_9d52b_4 : decode cJ2_length_9d52b 4 = .ok (.ireturn, 1) := by decide +kernel
set_option maxRecDepth 20000 in
theorem ggJ2_charAt_3b067_J2_checkIndex_2214a : GoodIn wsJ2_charAt_3b067 wsJ2_checkIndex_2214a := goodIn_r _ [4, 5, 6, 3, 7, 8, 9, 10, 11, 12, 13, 14, 15, 16] (by decide +kernel) (by decide +kernel)
set_option maxRecDepth 20000 in
theorem gJ2_charAt_3b067_J2_checkIndex_2214a : GoodIn wsJ2_charAt_3b067 (va_wsS RJ2 67 yJ2_checkIndex_2214a wsJ2_checkIndex_2214a) := goodIn_app (goodIn_of _ (by decide +kernel)) ggJ2_charAt_3b067_J2_checkIndex_2214a
set_option maxRecDepth 20000 in
theorem ggJ2_charAt_3b067_J2_getChar_3b067 : GoodIn wsJ2_charAt_3b067 wsJ2_getChar_3b067 := goodIn_r _ [19, 20, 21, 22, 5, 6, 3, 7] (by decide +kernel) (by decide +kernel)
set_option maxRecDepth 20000 in
theorem gJ2_charAt_3b067_J2_getChar_3b067 : GoodIn wsJ2_charAt_3b067 (va_wsS RJ2 71 yJ2_getChar_3b067 wsJ2_getChar_3b067) := goodIn_app (goodIn_of _ (by decide +kernel)) ggJ2_charAt_3b067_J2_getChar_3b067
theorem dJ2_charAt_3b067_0 : decode cJ2_charAt_3b067 0 = .ok (.iload_n 1, 1) := by decide +kernel
theorem dJ2_charAt_3b067_1 : decode cJ2_charAt_3b067 1 = .ok (.aload_n 0, 1) := by decide +kernel
theorem dJ2_charAt_3b067_2 : decode cJ2_charAt_3b067 2 = .ok (.invokestatic 67, 3) := by decide +kernel
theorem dJ2_charAt_3b067_5 : decode cJ2_charAt_3b067 5 = .ok (.aload_n 0, 1) := by decide +kernel
theorem dJ2_charAt_3b067_6 : decode cJ2_charAt_3b067 6 = .ok (.iload_n 1, 1) := by decide +kernel
theorem dJ2_charAt_3b067_7 : decode cJ2_charAt_3b067 7 = .ok (.invokestatic 71, 3) := by decide +kernel
theorem dJ2_charAt_3b067_10 : decode cJ2_charAt_3b067 10 = .ok (.ireturn, 1) := by decide +kernel
set_option maxRecDepth 20000 in
theorem ggJ2_checkIndex_2214a_J2_length_9d52b : GoodIn wsJ2_checkIndex_2214a wsJ2_length_9d52b := goodIn_r _ [4] (by decide +kernel) (by decide +kernel)
set_option maxRecDepth 20000 in
theorem gJ2_checkIndex_2214a_J2_length_9d52b : GoodIn wsJ2_checkIndex_2214a (va_wsS RJ2 48 yJ2_length_9d52b wsJ2_length_9d52b) := goodIn_app (goodIn_of _ (by decide +kernel)) ggJ2_checkIndex_2214a_J2_length_9d52b
set_option maxRecDepth 20000 in
theorem ggJ2_checkIndex_2214a_J0_checkIndex_df160 : GoodIn wsJ2_checkIndex_2214a wsJ0_checkIndex_df160 := goodIn_r _ [8, 9, 10, 11, 12, 13] (by decide +kernel) (by decide +kernel)
set_option maxRecDepth 20000 in
theorem gJ2_checkIndex_2214a_J0_checkIndex_df160 : GoodIn wsJ2_checkIndex_2214a (va_wsS RJ2 414 yJ0_checkIndex_df160 wsJ0_checkIndex_df160) := goodIn_app (goodIn_of _ (by decide +kernel)) ggJ2_checkIndex_2214a_J0_checkIndex_df160
theorem dJ2_checkIndex_2214a_0 : decode cJ2_checkIndex_2214a 0 = .ok (.iload_n 0, 1) := by decide +kernel
theorem dJ2_checkIndex_2214a_1 : decode cJ2_checkIndex_2214a 1 = .ok (.aload_n 1, 1) := by decide +kernel
theorem dJ2_checkIndex_2214a_2 : decode cJ2_checkIndex_2214a 2 = .ok (.invokestatic 48, 3) := by decide +kernel
theorem dJ2_checkIndex_2214a_5 : decode cJ2_checkIndex_2214a 5 = .ok (.invokestatic 414, 3) := by decide +kernel
theorem dJ2_checkIndex_2214a_8 : decode cJ2_checkIndex_2214a 8 = .ok (.return_, 1) := by decide +kernel
theorem dJ3_checkIndex_8e157_0 : decode cJ3_checkIndex_8e157 0 = .ok (.iload_n 0, 1) := by decide +kernel
theorem dJ3_checkIndex_8e157_1 : decode cJ3_checkIndex_8e157 1 = .ok (.ifCond .lt 8, 3) := by decide +kernel
theorem dJ3_checkIndex_8e157_4 : decode cJ3_checkIndex_8e157 4 = .ok (.iload_n 0, 1) := by decide +kernel
theorem dJ3_checkIndex_8e157_5 : decode cJ3_checkIndex_8e157 5 = .ok (.iload_n 1, 1) := by decide +kernel
theorem dJ3_checkIndex_8e157_6 : decode cJ3_checkIndex_8e157 6 = .ok (.if_icmp .lt 10, 3) := by decide +kernel
theorem dJ3_checkIndex_8e157_9 : decode cJ3_checkIndex_8e157 9 = .ok (.aload_n 2, 1) := by decide +kernel
theorem dJ3_checkIndex_8e157_10 : decode cJ3_checkIndex_8e157 10 = .ok (.iload_n 0, 1) := by decide +kernel
theorem dJ3_checkIndex_8e157_11 : decode cJ3_checkIndex_8e157 11 = .ok (.iload_n 1, 1) := by decide +kernel
theorem dJ3_checkIndex_8e157_12 : decode cJ3_checkIndex_8e157 12 = .ok (.invokestatic 95, 3) := by decide +kernel
theorem dJ3_checkIndex_8e157_15 : decode cJ3_checkIndex_8e157 15 = .ok (.athrow, 1) := by decide +kernel
theorem dJ3_checkIndex_8e157_16 : decode cJ3_checkIndex_8e157 16 = .ok (.iload_n 0, 1) := by decide +kernel
theorem dJ3_checkIndex_8e157_17 : decode cJ3_checkIndex_8e157 17 = .ok (.ireturn, 1) := by decide +kernel
set_option maxRecDepth 20000 in
theorem ggL_law_X9_init : GoodIn wsL_law wsX9_init := goodIn_r _ [8, 9, 10, 11, 12, 13, 14, 15, 16, 17, 18, 19, 20, 21, 22, 23, 24, 25, 26, 27, 28, 29, 30, 31, 32, 33, 34, 35, 36, 37, 38, 39, 40, 41, 42, 43, 44, 45, 46, 47, 48, 49, 50, 51, 52, 53, 54, 55, 56, 57, 58, 59, 60, 61, 62, 63, 64, 65, 66, 67, 68, 69, 70, 71, 72, 73, 74, 75, 76, 77, 78, 79, 80, 81, 82, 83, 84, 1051, 1052, 1053, 1054, 1025, 1026, 1027, 1028, 1029, 1030, 1031, 1055, 1056, 1057, 1058, 1059, 1060, 1061, 1062, 1063, 1064, 1065, 1066, 1067, 1068, 1069, 1070, 1071, 1072, 1073, 1074, 1075, 1076] (by decide +kernel) (by decide +kernel)
set_option maxRecDepth 20000 in
theorem gL_law_X9_init : GoodIn wsL_law (wsX9_init) := ggL_law_X9_init
set_option maxRecDepth 20000 in
theorem ggL_law_X10_init : GoodIn wsL_law wsX10_init := goodIn_r _ [87, 88, 10, 11, 41, 89, 90, 91, 92, 93, 94, 95, 96, 97, 98, 99, 100, 101, 102, 5, 103, 1032, 1033, 1034, 1035, 1036, 1037, 1038, 1039, 1040, 1041, 1042, 1043, 1044, 1045, 1046, 1047, 1048, 1049, 1050] (by decide +kernel) (by decide +kernel)
set_option maxRecDepth 20000 in
theorem gL_law_X10_init : GoodIn wsL_law (wsX10_init) := ggL_law_X10_init
set_option maxRecDepth 20000 in
theorem ggL_law_X9_setNodes : GoodIn wsL_law wsX9_setNodes := goodIn_r _ [107, 15, 20, 108, 109, 110, 14, 111, 48, 112, 113, 114, 19, 115, 116, 55, 117, 118, 119, 120, 121, 122, 123, 124, 49, 42, 43, 125, 45, 46, 47, 1025, 1026, 1027, 1028, 1029, 1030, 1031, 1051, 1052, 1053, 1054, 1055, 1056] (by decide +kernel) (by decide +kernel)
set_option maxRecDepth 20000 in
theorem gL_law_X9_setNodes : GoodIn wsL_law (wsV RL 13 RX9 yX9_setNodes wsX9_setNodes) := goodIn_app (goodIn_of _ (by decide +kernel)) ggL_law_X9_setNodes
set_option maxRecDepth 20000 in
theorem ggL_law_X10_setNodes : GoodIn wsL_law wsX10_setNodes := goodIn_r _ [129, 89, 130, 131, 5, 132, 133, 134, 135, 136, 91, 100, 101, 102, 103, 137, 138, 139, 140, 141, 90, 1032, 1033, 1034, 1035, 1036, 1037, 1038, 1039, 1040, 1041, 1042, 1043, 1044, 1045, 1046, 1047, 1048, 1049, 1050] (by decide +kernel) (by decide +kernel)
set_option maxRecDepth 20000 in
theorem gL_law_X10_setNodes : GoodIn wsL_law (wsV RL 17 RX10 yX10_setNodes wsX10_setNodes) := goodIn_app (goodIn_of _ (by decide +kernel)) ggL_law_X10_setNodes
set_option maxRecDepth 20000 in
theorem ggL_law_X9_addRound : GoodIn wsL_law wsX9_addRound := goodIn_r _ [145, 15, 20, 146, 147, 148, 14, 149, 49, 112, 113, 114, 19, 115, 116, 55, 117, 118, 119, 120, 121, 122, 123, 124, 48, 42, 43, 150, 151, 152, 153, 154, 155, 156, 157, 158, 1025, 1026, 1027, 1028, 1029, 1030, 1031, 1051, 1052, 1053, 1054, 1055, 1056] (by decide +kernel) (by decide +kernel)
set_option maxRecDepth 20000 in
theorem gL_law_X9_addRound : GoodIn wsL_law (wsV RL 18 RX9 yX9_addRound wsX9_addRound) := goodIn_app (goodIn_of _ (by decide +kernel)) ggL_law_X9_addRound
set_option maxRecDepth 20000 in
theorem ggL_law_X10_addRound : GoodIn wsL_law wsX10_addRound := goodIn_r _ [162, 89, 133, 134, 135, 5, 136, 91, 163, 164, 165, 166, 137, 138, 139, 140, 141, 90, 1032, 1033, 1034, 1035, 1036, 1037, 1038, 1039, 1040, 1041, 1042, 1043, 1044, 1045, 1046, 1047, 1048, 1049, 1050] (by decide +kernel) (by decide +kernel)
set_option maxRecDepth 20000 in
theorem gL_law_X10_addRound : GoodIn wsL_law (wsV RL 22 RX10 yX10_addRound wsX10_addRound) := goodIn_app (goodIn_of _ (by decide +kernel)) ggL_law_X10_addRound
set_option maxRecDepth 20000 in
theorem ggL_law_X9_setEdge : GoodIn wsL_law wsX9_setEdge := goodIn_r _ [170, 15, 20, 171, 172, 173, 14, 174, 175, 176, 177, 178, 49, 179, 180, 181, 182, 48, 183, 184, 185, 186, 42, 187, 188, 189, 190, 112, 113, 114, 19, 115, 116, 55, 117, 118, 119, 120, 121, 122, 123, 124, 43, 191, 192, 193, 194, 195, 196, 197, 198, 199, 200, 201, 1025, 1026, 1027, 1028, 1029, 1030, 1031, 1051, 1052, 1053, 1054, 1055, 1056] (by decide +kernel) (by decide +kernel)
set_option maxRecDepth 20000 in
theorem gL_law_X9_setEdge : GoodIn wsL_law (wsV RL 23 RX9 yX9_setEdge wsX9_setEdge) := goodIn_app (goodIn_of _ (by decide +kernel)) ggL_law_X9_setEdge
set_option maxRecDepth 20000 in
theorem ggL_law_X10_setEdge : GoodIn wsL_law wsX10_setEdge := goodIn_r _ [205, 89, 206, 207, 208, 5, 209, 130, 131, 132, 210, 211, 212, 213, 214, 215, 216, 217, 218, 219, 220, 133, 134, 135, 136, 91, 221, 222, 223, 137, 138, 139, 140, 141, 90, 1032, 1033, 1034, 1035, 1036, 1037, 1038, 1039, 1040, 1041, 1042, 1043, 1044, 1045, 1046, 1047, 1048, 1049, 1050] (by decide +kernel) (by decide +kernel)
set_option maxRecDepth 20000 in
theorem gL_law_X10_setEdge : GoodIn wsL_law (wsV RL 27 RX10 yX10_setEdge wsX10_setEdge) := goodIn_app (goodIn_of _ (by decide +kernel)) ggL_law_X10_setEdge
set_option maxRecDepth 20000 in
theorem ggL_law_X9_removeRound : GoodIn wsL_law wsX9_removeRound := goodIn_r _ [227, 15, 20, 228, 176, 177, 14, 178, 49, 112, 113, 114, 19, 115, 116, 55, 117, 118, 119, 120, 121, 122, 123, 124, 48, 42, 43, 229, 230, 231, 232, 175, 155, 156, 157, 158, 1025, 1026, 1027, 1028, 1029, 1030, 1031, 1051, 1052, 1053, 1054, 1055, 1056] (by decide +kernel) (by decide +kernel)
set_option maxRecDepth 20000 in
theorem gL_law_X9_removeRound : GoodIn wsL_law (wsV RL 28 RX9 yX9_removeRound wsX9_removeRound) := goodIn_app (goodIn_of _ (by decide +kernel)) ggL_law_X9_removeRound
set_option maxRecDepth 20000 in
theorem ggL_law_X10_removeRound : GoodIn wsL_law wsX10_removeRound := goodIn_r _ [236, 89, 206, 207, 208, 5, 209, 130, 131, 132, 133, 134, 135, 136, 91, 137, 138, 139, 140, 141, 90, 1032, 1033, 1034, 1035, 1036, 1037, 1038, 1039, 1040, 1041, 1042, 1043, 1044, 1045, 1046, 1047, 1048, 1049, 1050] (by decide +kernel) (by decide +kernel)
set_option maxRecDepth 20000 in
theorem gL_law_X10_removeRound : GoodIn wsL_law (wsV RL 31 RX10 yX10_removeRound wsX10_removeRound) := goodIn_app (goodIn_of _ (by decide +kernel)) ggL_law_X10_removeRound
set_option maxRecDepth 20000 in
theorem ggL_law_X9_swapRounds : GoodIn wsL_law wsX9_swapRounds := goodIn_r _ [240, 15, 20, 228, 176, 177, 14, 178, 49, 112, 113, 114, 19, 115, 116, 55, 117, 118, 119, 120, 121, 122, 123, 124, 48, 42, 43, 183, 184, 185, 186, 175, 191, 192, 193, 194, 195, 196, 197, 198, 199, 200, 201, 1025, 1026, 1027, 1028, 1029, 1030, 1031, 1051, 1052, 1053, 1054, 1055, 1056] (by decide +kernel) (by decide +kernel)
set_option maxRecDepth 20000 in
theorem gL_law_X9_swapRounds : GoodIn wsL_law (wsV RL 32 RX9 yX9_swapRounds wsX9_swapRounds) := goodIn_app (goodIn_of _ (by decide +kernel)) ggL_law_X9_swapRounds
set_option maxRecDepth 20000 in
theorem ggL_law_X10_swapRounds : GoodIn wsL_law wsX10_swapRounds := goodIn_r _ [244, 89, 206, 207, 208, 5, 209, 130, 131, 132, 133, 134, 135, 136, 91, 221, 222, 223, 137, 138, 139, 140, 141, 90, 1032, 1033, 1034, 1035, 1036, 1037, 1038, 1039, 1040, 1041, 1042, 1043, 1044, 1045, 1046, 1047, 1048, 1049, 1050] (by decide +kernel) (by decide +kernel)
set_option maxRecDepth 20000 in
theorem gL_law_X10_swapRounds : GoodIn wsL_law (wsV RL 36 RX10 yX10_swapRounds wsX10_swapRounds) := goodIn_app (goodIn_of _ (by decide +kernel)) ggL_law_X10_swapRounds
set_option maxRecDepth 20000 in
theorem ggL_law_X9_addAdversary : GoodIn wsL_law wsX9_addAdversary := goodIn_r _ [248, 15, 28, 20, 249, 180, 181, 14, 182, 48, 146, 147, 148, 149, 49, 250, 251, 252, 27, 253, 254, 66, 255, 256, 257, 258, 155, 156, 157, 158, 259, 260, 261, 262, 263, 264, 265, 266, 68, 67, 267, 268, 269, 270, 42, 271, 109, 110, 111, 272, 273, 189, 274, 275, 188, 190, 276, 277, 278, 279, 280, 281, 282, 108, 283, 284, 285, 286, 287, 288, 289, 290, 291, 292, 293, 294, 295, 296, 297, 298, 299, 300, 301, 302, 303, 304, 305, 306, 307, 308, 309, 310, 311, 312, 313, 314, 112, 113, 114, 19, 115, 116, 55, 117, 118, 119, 120, 121, 122, 123, 124, 43, 150, 151, 152, 153, 154, 195, 196, 197, 198, 199, 200, 201, 1025, 1026, 1027, 1028, 1029, 1030, 1031, 1051, 1052, 1053, 1054, 1062, 1063, 1064, 1065, 1055, 1056] (by decide +kernel) (by decide +kernel)
set_option maxRecDepth 20000 in
theorem gL_law_X9_addAdversary : GoodIn wsL_law (wsV RL 37 RX9 yX9_addAdversary wsX9_addAdversary) := goodIn_app (goodIn_of _ (by decide +kernel)) ggL_law_X9_addAdversary
set_option maxRecDepth 20000 in
theorem ggL_law_X10_addAdversary : GoodIn wsL_law wsX10_addAdversary := goodIn_r _ [318, 89, 130, 131, 5, 132, 214, 215, 216, 217, 133, 134, 135, 136, 91, 319, 320, 321, 322, 93, 323, 324, 325, 326, 327, 328, 329, 330, 331, 332, 333, 334, 94, 335, 336, 337, 338, 218, 219, 220, 339, 340, 341, 342, 343, 344, 345, 346, 347, 348, 349, 350, 351, 352, 353, 354, 355, 356, 357, 358, 359, 360, 163, 164, 165, 166, 221, 222, 223, 137, 138, 139, 140, 141, 90, 1032, 1033, 1034, 1035, 1036, 1037, 1038, 1039, 1040, 1041, 1042, 1043, 1044, 1045, 1046, 1047, 1048, 1049, 1050] (by decide +kernel) (by decide +kernel)
set_option maxRecDepth 20000 in
theorem gL_law_X10_addAdversary : GoodIn wsL_law (wsV RL 40 RX10 yX10_addAdversary wsX10_addAdversary) := goodIn_app (goodIn_of _ (by decide +kernel)) ggL_law_X10_addAdversary
set_option maxRecDepth 20000 in
theorem ggL_law_X9_setValue : GoodIn wsL_law wsX9_setValue := goodIn_r _ [364, 15, 20, 249, 180, 181, 14, 182, 48, 365, 366, 367, 368, 43, 179, 112, 113, 114, 19, 115, 116, 55, 117, 118, 119, 120, 121, 122, 123, 124, 49, 42, 369, 370, 371, 372, 1025, 1026, 1027, 1028, 1029, 1030, 1031, 1051, 1052, 1053, 1054, 1055, 1056] (by decide +kernel) (by decide +kernel)
set_option maxRecDepth 20000 in
theorem gL_law_X9_setValue : GoodIn wsL_law (wsV RL 41 RX9 yX9_setValue wsX9_setValue) := goodIn_app (goodIn_of _ (by decide +kernel)) ggL_law_X9_setValue
set_option maxRecDepth 20000 in
theorem ggL_law_X10_setValue : GoodIn wsL_law wsX10_setValue := goodIn_r _ [376, 89, 214, 215, 216, 5, 217, 130, 131, 132, 133, 134, 135, 136, 91, 137, 138, 139, 140, 141, 90, 1032, 1033, 1034, 1035, 1036, 1037, 1038, 1039, 1040, 1041, 1042, 1043, 1044, 1045, 1046, 1047, 1048, 1049, 1050] (by decide +kernel) (by decide +kernel)
set_option maxRecDepth 20000 in
theorem gL_law_X10_setValue : GoodIn wsL_law (wsV RL 44 RX10 yX10_setValue wsX10_setValue) := goodIn_app (goodIn_of _ (by decide +kernel)) ggL_law_X10_setValue
set_option maxRecDepth 20000 in
theorem ggL_law_X9_edge : GoodIn wsL_law wsX9_edge := goodIn_r _ [380, 15, 171, 172, 173, 14, 174, 175, 176, 177, 178, 49, 179, 180, 181, 182, 48, 183, 184, 185, 186, 42, 381, 273, 189, 274, 275, 188, 190, 382, 383, 2, 384, 1025, 1026, 1027, 1028, 1029, 1030, 1031, 1051, 1052, 1053, 1054] (by decide +kernel) (by decide +kernel)
set_option maxRecDepth 20000 in
theorem gL_law_X9_edge : GoodIn wsL_law (wsV RL 45 RX9 yX9_edge wsX9_edge) := goodIn_app (goodIn_of _ (by decide +kernel)) ggL_law_X9_edge
set_option maxRecDepth 20000 in
theorem ggL_law_X10_edge : GoodIn wsL_law wsX10_edge := goodIn_r _ [388, 89, 206, 207, 208, 5, 209, 130, 131, 132, 210, 211, 212, 213, 214, 215, 216, 217, 218, 219, 220, 1032, 1033, 1034, 1035, 1036, 1037, 1038, 1039, 1040, 1041, 1042, 1043, 1044, 1045, 1046, 1047, 1048, 1049, 1050] (by decide +kernel) (by decide +kernel)
set_option maxRecDepth 20000 in
theorem gL_law_X10_edge : GoodIn wsL_law (wsV RL 49 RX10 yX10_edge wsX10_edge) := goodIn_app (goodIn_of _ (by decide +kernel)) ggL_law_X10_edge
set_option maxRecDepth 20000 in
theorem ggL_law_X9_count : GoodIn wsL_law wsX9_count := goodIn_r _ [392, 15, 24, 20, 108, 109, 110, 14, 111, 48, 155, 156, 157, 158, 49, 393, 394, 395, 396, 42, 397, 196, 197, 198, 199, 200, 201, 398, 399, 400, 401, 402, 403, 189, 404, 405, 406, 407, 408, 256, 257, 258, 409, 410, 411, 412, 273, 274, 275, 188, 190, 314, 281, 282, 413, 288, 289, 414, 415, 416, 23, 417, 418, 419, 420, 421, 19, 422, 116, 1025, 1026, 1027, 1028, 1029, 1030, 1031, 1051, 1052, 1053, 1054, 1057, 1058, 1059, 1060, 1061, 1055, 1056] (by decide +kernel) (by decide +kernel)
set_option maxRecDepth 20000 in
theorem gL_law_X9_count : GoodIn wsL_law (wsV RL 50 RX9 yX9_count wsX9_count) := goodIn_app (goodIn_of _ (by decide +kernel)) ggL_law_X9_count
set_option maxRecDepth 20000 in
theorem ggL_law_X10_count : GoodIn wsL_law wsX10_count := goodIn_r _ [426, 89, 427, 141, 428, 429, 430, 5, 431, 221, 222, 223, 432, 433, 434, 435, 436, 437, 438, 439, 440, 441, 442, 443, 218, 219, 220, 339, 340, 341, 342, 1032, 1033, 1034, 1035, 1036, 1037, 1038, 1039, 1040, 1041, 1042, 1043, 1044, 1045, 1046, 1047, 1048, 1049, 1050] (by decide +kernel) (by decide +kernel)
set_option maxRecDepth 20000 in
theorem gL_law_X10_count : GoodIn wsL_law (wsV RL 53 RX10 yX10_count wsX10_count) := goodIn_app (goodIn_of _ (by decide +kernel)) ggL_law_X10_count
set_option maxRecDepth 20000 in
theorem ggL_law_X9_value : GoodIn wsL_law wsX9_value := goodIn_r _ [447, 15, 249, 180, 181, 14, 182, 48, 365, 366, 367, 368, 43, 179, 1025, 1026, 1027, 1028, 1029, 1030, 1031, 1051, 1052, 1053, 1054] (by decide +kernel) (by decide +kernel)
set_option maxRecDepth 20000 in
theorem gL_law_X9_value : GoodIn wsL_law (wsV RL 54 RX9 yX9_value wsX9_value) := goodIn_app (goodIn_of _ (by decide +kernel)) ggL_law_X9_value
set_option maxRecDepth 20000 in
theorem ggL_law_X10_value : GoodIn wsL_law wsX10_value := goodIn_r _ [451, 89, 214, 215, 216, 5, 217, 130, 131, 132, 1032, 1033, 1034, 1035, 1036, 1037, 1038, 1039, 1040, 1041, 1042, 1043, 1044, 1045, 1046, 1047, 1048, 1049, 1050] (by decide +kernel) (by decide +kernel)
set_option maxRecDepth 20000 in
theorem gL_law_X10_value : GoodIn wsL_law (wsV RL 57 RX10 yX10_value wsX10_value) := goodIn_app (goodIn_of _ (by decide +kernel)) ggL_law_X10_value
set_option maxRecDepth 20000 in
theorem ggL_law_X9_appendCharacter : GoodIn wsL_law wsX9_appendCharacter := goodIn_r _ [455, 24, 456, 457, 458, 23, 459, 418, 460, 461, 462, 463, 61, 464, 414, 415, 416, 417, 1025, 1026, 1027, 1028, 1029, 1030, 1031, 1057, 1058, 1059, 1060, 1061] (by decide +kernel) (by decide +kernel)
set_option maxRecDepth 20000 in
theorem gL_law_X9_appendCharacter : GoodIn wsL_law (wsV RL 58 RX9 yX9_appendCharacter wsX9_appendCharacter) := goodIn_app (goodIn_of _ (by decide +kernel)) ggL_law_X9_appendCharacter
set_option maxRecDepth 20000 in
theorem ggL_law_X10_appendCharacter : GoodIn wsL_law wsX10_appendCharacter := goodIn_r _ [468, 427, 92, 130, 131, 5, 132, 1032, 1033, 1034, 1035, 1036, 1037, 1038, 1039, 1040, 1041, 1042, 1043, 1044, 1045, 1046, 1047, 1048, 1049, 1050] (by decide +kernel) (by decide +kernel)
set_option maxRecDepth 20000 in
theorem gL_law_X10_appendCharacter : GoodIn wsL_law (wsV RL 61 RX10 yX10_appendCharacter wsX10_appendCharacter) := goodIn_app (goodIn_of _ (by decide +kernel)) ggL_law_X10_appendCharacter
set_option maxRecDepth 20000 in
theorem ggL_law_X9_clearText : GoodIn wsL_law wsX9_clearText := goodIn_r _ [472, 24, 414, 415, 416, 23, 417, 418, 473, 474, 475, 476, 1025, 1026, 1027, 1028, 1029, 1030, 1031, 1057, 1058, 1059, 1060, 1061] (by decide +kernel) (by decide +kernel)
set_option maxRecDepth 20000 in
theorem gL_law_X9_clearText : GoodIn wsL_law (wsV RL 62 RX9 yX9_clearText wsX9_clearText) := goodIn_app (goodIn_of _ (by decide +kernel)) ggL_law_X9_clearText
set_option maxRecDepth 20000 in
theorem ggL_law_X10_clearText : GoodIn wsL_law wsX10_clearText := goodIn_r _ [480, 427, 1032, 1033, 1034, 1035, 1036, 1037, 1038, 1039, 1040, 1041, 1042, 1043, 1044, 1045, 1046, 1047, 1048, 1049, 1050] (by decide +kernel) (by decide +kernel)
set_option maxRecDepth 20000 in
theorem gL_law_X10_clearText : GoodIn wsL_law (wsV RL 65 RX10 yX10_clearText wsX10_clearText) := goodIn_app (goodIn_of _ (by decide +kernel)) ggL_law_X10_clearText
set_option maxRecDepth 20000 in
theorem ggL_law_X9_load : GoodIn wsL_law wsX9_load := goodIn_r _ [484, 24, 16, 20, 15, 485, 486, 487, 23, 488, 489, 490, 491, 492, 45, 46, 14, 47, 48, 49, 43, 493, 494, 495, 496, 418, 497, 498, 499, 500, 61, 501, 502, 503, 504, 505, 506, 507, 508, 509, 510, 511, 512, 513, 147, 148, 149, 514, 515, 516, 517, 518, 519, 520, 521, 522, 180, 181, 182, 523, 188, 189, 190, 524, 151, 152, 153, 42, 154, 525, 526, 527, 528, 529, 530, 531, 532, 533, 534, 535, 536, 537, 538, 539, 540, 541, 542, 543, 544, 545, 546, 547, 548, 549, 550, 551, 552, 553, 554, 555, 556, 557, 558, 559, 560, 561, 562, 563, 564, 565, 566, 567, 568, 569, 570, 571, 572, 573, 574, 575, 576, 577, 578, 579, 580, 581, 582, 583, 584, 585, 586, 156, 157, 158, 587, 588, 589, 590, 591, 184, 185, 186, 175, 176, 177, 178, 592, 593, 594, 595, 596, 109, 110, 111, 597, 309, 310, 275, 598, 599, 600, 601, 602, 288, 257, 289, 603, 312, 313, 314, 281, 282, 604, 605, 606, 607, 608, 609, 610, 112, 113, 114, 19, 115, 116, 55, 117, 118, 119, 120, 121, 122, 123, 124, 611, 473, 474, 475, 476, 155, 1025, 1026, 1027, 1028, 1029, 1030, 1031, 1057, 1058, 1059, 1060, 1061, 1051, 1052, 1053, 1054, 1055, 1056] (by decide +kernel) (by decide +kernel)
set_option maxRecDepth 20000 in
theorem gL_law_X9_load : GoodIn wsL_law (wsV RL 66 RX9 yX9_load wsX9_load) := goodIn_app (goodIn_of _ (by decide +kernel)) ggL_law_X9_load
set_option maxRecDepth 20000 in
theorem ggL_law_X10_load : GoodIn wsL_law wsX10_load := goodIn_r _ [615, 616, 617, 618, 427, 89, 133, 134, 135, 5, 136, 91, 100, 101, 102, 103, 619, 620, 621, 622, 623, 624, 92, 625, 626, 627, 628, 629, 630, 130, 131, 132, 631, 632, 633, 634, 635, 636, 637, 638, 639, 640, 641, 642, 643, 644, 645, 646, 647, 648, 649, 163, 164, 165, 166, 353, 354, 355, 356, 218, 219, 220, 650, 651, 652, 653, 654, 655, 656, 657, 339, 340, 341, 342, 349, 350, 351, 352, 357, 358, 359, 360, 658, 659, 660, 661, 210, 211, 212, 213, 214, 215, 216, 217, 662, 663, 664, 665, 666, 667, 668, 669, 137, 138, 139, 140, 141, 90, 1032, 1033, 1034, 1035, 1036, 1037, 1038, 1039, 1040, 1041, 1042, 1043, 1044, 1045, 1046, 1047, 1048, 1049, 1050] (by decide +kernel) (by decide +kernel)
set_option maxRecDepth 20000 in
theorem gL_law_X10_load : GoodIn wsL_law (wsV RL 69 RX10 yX10_load wsX10_load) := goodIn_app (goodIn_of _ (by decide +kernel)) ggL_law_X10_load
set_option maxRecDepth 20000 in
theorem ggL_law_X9_round : GoodIn wsL_law wsX9_round := goodIn_r _ [673, 15, 228, 176, 177, 14, 178, 49, 183, 184, 185, 186, 42, 175, 195, 196, 197, 198, 199, 200, 201, 108, 109, 110, 111, 48, 674, 403, 189, 404, 405, 406, 407, 408, 256, 257, 258, 409, 410, 411, 412, 273, 274, 275, 188, 190, 314, 281, 282, 413, 288, 289, 382, 383, 2, 384, 675, 676, 677, 678, 679, 680, 681, 682, 683, 684, 685, 686, 687, 688, 1025, 1026, 1027, 1028, 1029, 1030, 1031, 1051, 1052, 1053, 1054] (by decide +kernel) (by decide +kernel)
set_option maxRecDepth 20000 in
theorem gL_law_X9_round : GoodIn wsL_law (wsV RL 70 RX9 yX9_round wsX9_round) := goodIn_app (goodIn_of _ (by decide +kernel)) ggL_law_X9_round
set_option maxRecDepth 20000 in
theorem ggL_law_X10_round : GoodIn wsL_law wsX10_round := goodIn_r _ [692, 89, 206, 207, 208, 5, 209, 130, 131, 132, 221, 222, 223, 432, 433, 434, 435, 436, 437, 438, 439, 440, 441, 442, 443, 218, 219, 220, 339, 340, 341, 342, 693, 694, 695, 696, 346, 347, 348, 697, 698, 699, 700, 1032, 1033, 1034, 1035, 1036, 1037, 1038, 1039, 1040, 1041, 1042, 1043, 1044, 1045, 1046, 1047, 1048, 1049, 1050] (by decide +kernel) (by decide +kernel)
set_option maxRecDepth 20000 in
theorem gL_law_X10_round : GoodIn wsL_law (wsV RL 73 RX10 yX10_round wsX10_round) := goodIn_app (goodIn_of _ (by decide +kernel)) ggL_law_X10_round
set_option maxRecDepth 20000 in
theorem ggL_law_X9_staying : GoodIn wsL_law wsX9_staying := goodIn_r _ [704, 15, 228, 176, 177, 14, 178, 49, 155, 156, 157, 158, 705, 706, 707, 708, 709, 184, 185, 186, 42, 175, 195, 196, 197, 198, 199, 200, 201, 1025, 1026, 1027, 1028, 1029, 1030, 1031, 1051, 1052, 1053, 1054] (by decide +kernel) (by decide +kernel)
set_option maxRecDepth 20000 in
theorem gL_law_X9_staying : GoodIn wsL_law (wsV RL 74 RX9 yX9_staying wsX9_staying) := goodIn_app (goodIn_of _ (by decide +kernel)) ggL_law_X9_staying
set_option maxRecDepth 20000 in
theorem ggL_law_X10_staying : GoodIn wsL_law wsX10_staying := goodIn_r _ [713, 89, 206, 207, 208, 5, 209, 130, 131, 132, 714, 715, 716, 717, 718, 221, 222, 223, 1032, 1033, 1034, 1035, 1036, 1037, 1038, 1039, 1040, 1041, 1042, 1043, 1044, 1045, 1046, 1047, 1048, 1049, 1050] (by decide +kernel) (by decide +kernel)
set_option maxRecDepth 20000 in
theorem gL_law_X10_staying : GoodIn wsL_law (wsV RL 77 RX10 yX10_staying wsX10_staying) := goodIn_app (goodIn_of _ (by decide +kernel)) ggL_law_X10_staying
set_option maxRecDepth 20000 in
theorem ggL_law_X9_isStable : GoodIn wsL_law wsX9_isStable := goodIn_r _ [722, 15, 155, 156, 157, 14, 158, 49, 723, 724, 725, 726, 48, 727, 706, 707, 708, 709, 184, 185, 186, 42, 175, 176, 177, 178, 402, 403, 189, 404, 405, 406, 407, 408, 256, 257, 258, 409, 410, 411, 412, 273, 274, 275, 188, 190, 314, 281, 282, 413, 288, 289, 382, 383, 2, 384, 1025, 1026, 1027, 1028, 1029, 1030, 1031, 1051, 1052, 1053, 1054] (by decide +kernel) (by decide +kernel)
set_option maxRecDepth 20000 in
theorem gL_law_X9_isStable : GoodIn wsL_law (wsV RL 78 RX9 yX9_isStable wsX9_isStable) := goodIn_app (goodIn_of _ (by decide +kernel)) ggL_law_X9_isStable
set_option maxRecDepth 20000 in
theorem ggL_law_X10_isStable : GoodIn wsL_law wsX10_isStable := goodIn_r _ [731, 89, 130, 131, 5, 132, 732, 733, 734, 735, 714, 715, 716, 717, 718, 432, 433, 434, 435, 436, 437, 438, 439, 440, 441, 442, 443, 218, 219, 220, 339, 340, 341, 342, 1032, 1033, 1034, 1035, 1036, 1037, 1038, 1039, 1040, 1041, 1042, 1043, 1044, 1045, 1046, 1047, 1048, 1049, 1050] (by decide +kernel) (by decide +kernel)
set_option maxRecDepth 20000 in
theorem gL_law_X10_isStable : GoodIn wsL_law (wsV RL 81 RX10 yX10_isStable wsX10_isStable) := goodIn_app (goodIn_of _ (by decide +kernel)) ggL_law_X10_isStable
set_option maxRecDepth 20000 in
theorem ggL_law_X9_greatestStable : GoodIn wsL_law wsX9_greatestStable := goodIn_r _ [739, 15, 155, 156, 157, 14, 158, 49, 723, 724, 725, 726, 48, 727, 706, 707, 708, 709, 184, 185, 186, 42, 175, 176, 177, 178, 402, 403, 189, 404, 405, 406, 407, 408, 256, 257, 258, 409, 410, 411, 412, 273, 274, 275, 188, 190, 314, 281, 282, 413, 288, 289, 1025, 1026, 1027, 1028, 1029, 1030, 1031, 1051, 1052, 1053, 1054] (by decide +kernel) (by decide +kernel)
set_option maxRecDepth 20000 in
theorem gL_law_X9_greatestStable : GoodIn wsL_law (wsV RL 82 RX9 yX9_greatestStable wsX9_greatestStable) := goodIn_app (goodIn_of _ (by decide +kernel)) ggL_law_X9_greatestStable
set_option maxRecDepth 20000 in
theorem ggL_law_X10_greatestStable : GoodIn wsL_law wsX10_greatestStable := goodIn_r _ [743, 89, 732, 733, 734, 5, 735, 714, 715, 716, 717, 718, 432, 433, 434, 435, 436, 437, 438, 439, 440, 441, 442, 443, 218, 219, 220, 339, 340, 341, 342, 1032, 1033, 1034, 1035, 1036, 1037, 1038, 1039, 1040, 1041, 1042, 1043, 1044, 1045, 1046, 1047, 1048, 1049, 1050] (by decide +kernel) (by decide +kernel)
set_option maxRecDepth 20000 in
theorem gL_law_X10_greatestStable : GoodIn wsL_law (wsV RL 85 RX10 yX10_greatestStable wsX10_greatestStable) := goodIn_app (goodIn_of _ (by decide +kernel)) ggL_law_X10_greatestStable
set_option maxRecDepth 20000 in
theorem ggL_law_X9_window : GoodIn wsL_law wsX9_window := goodIn_r _ [747, 15, 228, 176, 177, 14, 178, 49, 748, 749, 750, 751, 48, 727, 706, 707, 708, 709, 184, 185, 186, 42, 175, 402, 403, 189, 404, 405, 406, 407, 408, 256, 257, 258, 409, 410, 411, 412, 273, 274, 275, 188, 190, 314, 281, 282, 413, 288, 289, 1025, 1026, 1027, 1028, 1029, 1030, 1031, 1051, 1052, 1053, 1054] (by decide +kernel) (by decide +kernel)
set_option maxRecDepth 20000 in
theorem gL_law_X9_window : GoodIn wsL_law (wsV RL 86 RX9 yX9_window wsX9_window) := goodIn_app (goodIn_of _ (by decide +kernel)) ggL_law_X9_window
set_option maxRecDepth 20000 in
theorem ggL_law_X10_window : GoodIn wsL_law wsX10_window := goodIn_r _ [755, 89, 206, 207, 208, 5, 209, 130, 131, 132, 714, 715, 716, 717, 718, 432, 433, 434, 435, 436, 437, 438, 439, 440, 441, 442, 443, 218, 219, 220, 339, 340, 341, 342, 1032, 1033, 1034, 1035, 1036, 1037, 1038, 1039, 1040, 1041, 1042, 1043, 1044, 1045, 1046, 1047, 1048, 1049, 1050] (by decide +kernel) (by decide +kernel)
set_option maxRecDepth 20000 in
theorem gL_law_X10_window : GoodIn wsL_law (wsV RL 89 RX10 yX10_window wsX10_window) := goodIn_app (goodIn_of _ (by decide +kernel)) ggL_law_X10_window
set_option maxRecDepth 20000 in
theorem ggL_law_X9_heard : GoodIn wsL_law wsX9_heard := goodIn_r _ [759, 15, 28, 249, 180, 181, 14, 182, 48, 760, 761, 2, 762, 250, 251, 252, 27, 253, 254, 66, 255, 256, 257, 258, 259, 260, 261, 262, 263, 264, 265, 266, 68, 67, 267, 268, 269, 270, 49, 42, 271, 109, 110, 111, 272, 273, 189, 274, 275, 188, 190, 763, 764, 765, 766, 767, 1025, 1026, 1027, 1028, 1029, 1030, 1031, 1051, 1052, 1053, 1054, 1062, 1063, 1064, 1065] (by decide +kernel) (by decide +kernel)
set_option maxRecDepth 20000 in
theorem gL_law_X9_heard : GoodIn wsL_law (wsV RL 90 RX9 yX9_heard wsX9_heard) := goodIn_app (goodIn_of _ (by decide +kernel)) ggL_law_X9_heard
set_option maxRecDepth 20000 in
theorem ggL_law_X10_heard : GoodIn wsL_law wsX10_heard := goodIn_r _ [771, 93, 214, 215, 216, 5, 217, 89, 130, 131, 132, 772, 773, 774, 323, 324, 325, 326, 327, 328, 329, 330, 331, 332, 333, 334, 94, 335, 336, 337, 338, 218, 219, 220, 1032, 1033, 1034, 1035, 1036, 1037, 1038, 1039, 1040, 1041, 1042, 1043, 1044, 1045, 1046, 1047, 1048, 1049, 1050] (by decide +kernel) (by decide +kernel)
set_option maxRecDepth 20000 in
theorem gL_law_X10_heard : GoodIn wsL_law (wsV RL 93 RX10 yX10_heard wsX10_heard) := goodIn_app (goodIn_of _ (by decide +kernel)) ggL_law_X10_heard
set_option maxRecDepth 20000 in
theorem ggL_law_X9_journey : GoodIn wsL_law wsX9_journey := goodIn_r _ [778, 15, 28, 249, 180, 181, 14, 182, 48, 760, 761, 2, 762, 250, 251, 252, 27, 253, 254, 66, 255, 256, 257, 258, 779, 780, 781, 782, 49, 763, 764, 765, 766, 68, 767, 783, 281, 282, 784, 264, 265, 266, 67, 267, 268, 269, 270, 42, 271, 109, 110, 111, 272, 273, 189, 274, 275, 188, 190, 1025, 1026, 1027, 1028, 1029, 1030, 1031, 1051, 1052, 1053, 1054, 1062, 1063, 1064, 1065] (by decide +kernel) (by decide +kernel)
set_option maxRecDepth 20000 in
theorem gL_law_X9_journey : GoodIn wsL_law (wsV RL 94 RX9 yX9_journey wsX9_journey) := goodIn_app (goodIn_of _ (by decide +kernel)) ggL_law_X9_journey
set_option maxRecDepth 20000 in
theorem ggL_law_X10_journey : GoodIn wsL_law wsX10_journey := goodIn_r _ [788, 95, 214, 215, 216, 5, 217, 89, 130, 131, 132, 772, 773, 774, 789, 790, 791, 792, 93, 327, 328, 329, 330, 331, 332, 333, 334, 94, 335, 336, 337, 338, 218, 219, 220, 1032, 1033, 1034, 1035, 1036, 1037, 1038, 1039, 1040, 1041, 1042, 1043, 1044, 1045, 1046, 1047, 1048, 1049, 1050] (by decide +kernel) (by decide +kernel)
set_option maxRecDepth 20000 in
theorem gL_law_X10_journey : GoodIn wsL_law (wsV RL 97 RX10 yX10_journey wsX10_journey) := goodIn_app (goodIn_of _ (by decide +kernel)) ggL_law_X10_journey
set_option maxRecDepth 20000 in
theorem ggL_law_X9_diameter : GoodIn wsL_law wsX9_diameter := goodIn_r _ [796, 28, 15, 760, 761, 2, 762, 250, 251, 252, 27, 253, 254, 66, 255, 256, 257, 258, 779, 780, 781, 14, 782, 48, 49, 797, 798, 799, 800, 68, 271, 109, 110, 111, 801, 288, 289, 108, 802, 784, 264, 265, 266, 67, 267, 268, 269, 270, 42, 272, 273, 189, 274, 275, 188, 190, 1025, 1026, 1027, 1028, 1029, 1030, 1031, 1062, 1063, 1064, 1065, 1051, 1052, 1053, 1054] (by decide +kernel) (by decide +kernel)
set_option maxRecDepth 20000 in
theorem gL_law_X9_diameter : GoodIn wsL_law (wsV RL 98 RX9 yX9_diameter wsX9_diameter) := goodIn_app (goodIn_of _ (by decide +kernel)) ggL_law_X9_diameter
set_option maxRecDepth 20000 in
theorem ggL_law_X10_diameter : GoodIn wsL_law wsX10_diameter := goodIn_r _ [806, 89, 772, 773, 5, 774, 130, 131, 132, 789, 790, 791, 792, 95, 93, 327, 328, 329, 330, 331, 332, 333, 334, 94, 335, 336, 337, 338, 218, 219, 220, 807, 808, 809, 810, 1032, 1033, 1034, 1035, 1036, 1037, 1038, 1039, 1040, 1041, 1042, 1043, 1044, 1045, 1046, 1047, 1048, 1049, 1050] (by decide +kernel) (by decide +kernel)
set_option maxRecDepth 20000 in
theorem gL_law_X10_diameter : GoodIn wsL_law (wsV RL 101 RX10 yX10_diameter wsX10_diameter) := goodIn_app (goodIn_of _ (by decide +kernel)) ggL_law_X10_diameter
