set_option maxRecDepth 20000 in
theorem ggX5_init_X2_init : GoodIn wsX5_init wsX2_init := goodIn_r _ [35, 36, 2, 3, 17, 37, 38, 39, 40, 41, 42, 43, 44, 45, 46, 47, 48, 49, 50, 51, 82, 83, 84, 85, 86, 96, 97, 98] (by decide +kernel) (by decide +kernel)
set_option maxRecDepth 20000 in
theorem gX5_init_X2_init : GoodIn wsX5_init (wsX2_init) := ggX5_init_X2_init
set_option maxRecDepth 20000 in
theorem ggX5_init_X3_init : GoodIn wsX5_init wsX3_init := goodIn_r _ [54, 55, 2, 3, 17, 56, 57, 87, 88] (by decide +kernel) (by decide +kernel)
set_option maxRecDepth 20000 in
theorem gX5_init_X3_init : GoodIn wsX5_init (wsX3_init) := ggX5_init_X3_init
set_option maxRecDepth 20000 in
theorem ggX5_init_X1_init : GoodIn wsX5_init wsX1_init := goodIn_r _ [60, 61, 2, 3, 62, 17, 63, 89, 90] (by decide +kernel) (by decide +kernel)
set_option maxRecDepth 20000 in
theorem gX5_init_X1_init : GoodIn wsX5_init (wsX1_init) := ggX5_init_X1_init
set_option maxRecDepth 20000 in
theorem ggX5_init_X0_init : GoodIn wsX5_init wsX0_init := goodIn_r _ [66, 67, 2, 3, 68, 17, 69, 70, 71, 72, 73, 91, 92, 93, 94, 95] (by decide +kernel) (by decide +kernel)
set_option maxRecDepth 20000 in
theorem gX5_init_X0_init : GoodIn wsX5_init (wsX0_init) := ggX5_init_X0_init
theorem dX5_init_0 : decode cX5_init 0 = .ok (.aload_n 0, 1) := by decide +kernel
theorem dX5_init_1 : decode cX5_init 1 = .ok (.invokespecial 3, 3) := by decide +kernel
theorem dX5_init_4 : decode cX5_init 4 = .ok (.aload_n 0, 1) := by decide +kernel
theorem dX5_init_5 : decode cX5_init 5 = .ok (.iconst 1, 1) := by decide +kernel
theorem dX5_init_6 : decode cX5_init 6 = .ok (.bipush 12, 2) := by decide +kernel
theorem dX5_init_8 : decode cX5_init 8 = .ok (.iload_n 1, 1) := by decide +kernel
theorem dX5_init_9 : decode cX5_init 9 = .ok (.invokestatic 11, 3) := by decide +kernel
theorem dX5_init_12 : decode cX5_init 12 = .ok (.invokestatic 17, 3) := by decide +kernel
theorem dX5_init_15 : decode cX5_init 15 = .ok (.putfield 20, 3) := by decide +kernel
theorem dX5_init_18 : decode cX5_init 18 = .ok (.aload_n 0, 1) := by decide +kernel
theorem dX5_init_19 : decode cX5_init 19 = .ok (.bipush 6, 2) := by decide +kernel
theorem dX5_init_21 : decode cX5_init 21 = .ok (.anewarray 24, 3) := by decide +kernel
theorem dX5_init_24 : decode cX5_init 24 = .ok (.putfield 26, 3) := by decide +kernel
theorem dX5_init_27 : decode cX5_init 27 = .ok (.iconst 0, 1) := by decide +kernel
theorem dX5_init_28 : decode cX5_init 28 = .ok (.istore_n 2, 1) := by decide +kernel
theorem dX5_init_29 : decode cX5_init 29 = .ok (.iload_n 2, 1) := by decide +kernel
theorem dX5_init_30 : decode cX5_init 30 = .ok (.bipush 6, 2) := by decide +kernel
theorem dX5_init_32 : decode cX5_init 32 = .ok (.if_icmp .ge 26, 3) := by decide +kernel
theorem dX5_init_35 : decode cX5_init 35 = .ok (.aload_n 0, 1) := by decide +kernel
theorem dX5_init_36 : decode cX5_init 36 = .ok (.getfield 26, 3) := by decide +kernel
theorem dX5_init_39 : decode cX5_init 39 = .ok (.iload_n 2, 1) := by decide +kernel
theorem dX5_init_40 : decode cX5_init 40 = .ok (.new 24, 3) := by decide +kernel
theorem dX5_init_43 : decode cX5_init 43 = .ok (.dup, 1) := by decide +kernel
theorem dX5_init_44 : decode cX5_init 44 = .ok (.aload_n 0, 1) := by decide +kernel
theorem dX5_init_45 : decode cX5_init 45 = .ok (.getfield 20, 3) := by decide +kernel
theorem dX5_init_48 : decode cX5_init 48 = .ok (.invokespecial 30, 3) := by decide +kernel
theorem dX5_init_51 : decode cX5_init 51 = .ok (.aastore, 1) := by decide +kernel
theorem dX5_init_52 : decode cX5_init 52 = .ok (.iinc 2 1, 3) := by decide +kernel
theorem dX5_init_55 : decode cX5_init 55 = .ok (.goto (-26), 3) := by decide +kernel
theorem dX5_init_58 : decode cX5_init 58 = .ok (.aload_n 0, 1) := by decide +kernel
theorem dX5_init_59 : decode cX5_init 59 = .ok (.iconst 0, 1) := by decide +kernel
theorem dX5_init_60 : decode cX5_init 60 = .ok (.putfield 33, 3) := by decide +kernel
theorem dX5_init_63 : decode cX5_init 63 = .ok (.aload_n 0, 1) := by decide +kernel
theorem dX5_init_64 : decode cX5_init 64 = .ok (.aload_n 0, 1) := by decide +kernel
theorem dX5_init_65 : decode cX5_init 65 = .ok (.getfield 20, 3) := by decide +kernel
theorem dX5_init_68 : decode cX5_init 68 = .ok (.iconst 1, 1) := by decide +kernel
theorem dX5_init_69 : decode cX5_init 69 = .ok (.iadd, 1) := by decide +kernel
theorem dX5_init_70 : decode cX5_init 70 = .ok (.newarray .int, 2) := by decide +kernel
theorem dX5_init_72 : decode cX5_init 72 = .ok (.putfield 36, 3) := by decide +kernel
theorem dX5_init_75 : decode cX5_init 75 = .ok (.iconst 1, 1) := by decide +kernel
theorem dX5_init_76 : decode cX5_init 76 = .ok (.istore_n 2, 1) := by decide +kernel
theorem dX5_init_77 : decode cX5_init 77 = .ok (.iload_n 2, 1) := by decide +kernel
theorem dX5_init_78 : decode cX5_init 78 = .ok (.aload_n 0, 1) := by decide +kernel
theorem dX5_init_79 : decode cX5_init 79 = .ok (.getfield 20, 3) := by decide +kernel
theorem dX5_init_82 : decode cX5_init 82 = .ok (.if_icmp .gt 18, 3) := by decide +kernel
theorem dX5_init_85 : decode cX5_init 85 = .ok (.aload_n 0, 1) := by decide +kernel
theorem dX5_init_86 : decode cX5_init 86 = .ok (.getfield 36, 3) := by decide +kernel
theorem dX5_init_89 : decode cX5_init 89 = .ok (.iload_n 2, 1) := by decide +kernel
theorem dX5_init_90 : decode cX5_init 90 = .ok (.sipush 10000, 3) := by decide +kernel
theorem dX5_init_93 : decode cX5_init 93 = .ok (.iastore, 1) := by decide +kernel
theorem dX5_init_94 : decode cX5_init 94 = .ok (.iinc 2 1, 3) := by decide +kernel
theorem dX5_init_97 : decode cX5_init 97 = .ok (.goto (-20), 3) := by decide +kernel
theorem dX5_init_100 : decode cX5_init 100 = .ok (.aload_n 0, 1) := by decide +kernel
theorem dX5_init_101 : decode cX5_init 101 = .ok (.getstatic 40, 3) := by decide +kernel
theorem dX5_init_104 : decode cX5_init 104 = .ok (.arraylength, 1) := by decide +kernel
theorem dX5_init_105 : decode cX5_init 105 = .ok (.newarray .int, 2) := by decide +kernel
theorem dX5_init_107 : decode cX5_init 107 = .ok (.putfield 43, 3) := by decide +kernel
theorem dX5_init_110 : decode cX5_init 110 = .ok (.aload_n 0, 1) := by decide +kernel
theorem dX5_init_111 : decode cX5_init 111 = .ok (.new 46, 3) := by decide +kernel
theorem dX5_init_114 : decode cX5_init 114 = .ok (.dup, 1) := by decide +kernel
theorem dX5_init_115 : decode cX5_init 115 = .ok (.aload_n 0, 1) := by decide +kernel
theorem dX5_init_116 : decode cX5_init 116 = .ok (.getfield 20, 3) := by decide +kernel
theorem dX5_init_119 : decode cX5_init 119 = .ok (.invokespecial 48, 3) := by decide +kernel
theorem dX5_init_122 : decode cX5_init 122 = .ok (.putfield 49, 3) := by decide +kernel
theorem dX5_init_125 : decode cX5_init 125 = .ok (.aload_n 0, 1) := by decide +kernel
theorem dX5_init_126 : decode cX5_init 126 = .ok (.new 53, 3) := by decide +kernel
theorem dX5_init_129 : decode cX5_init 129 = .ok (.dup, 1) := by decide +kernel
theorem dX5_init_130 : decode cX5_init 130 = .ok (.aload_n 0, 1) := by decide +kernel
theorem dX5_init_131 : decode cX5_init 131 = .ok (.getfield 20, 3) := by decide +kernel
theorem dX5_init_134 : decode cX5_init 134 = .ok (.invokespecial 55, 3) := by decide +kernel
theorem dX5_init_137 : decode cX5_init 137 = .ok (.putfield 56, 3) := by decide +kernel
theorem dX5_init_140 : decode cX5_init 140 = .ok (.aload_n 0, 1) := by decide +kernel
theorem dX5_init_141 : decode cX5_init 141 = .ok (.new 60, 3) := by decide +kernel
theorem dX5_init_144 : decode cX5_init 144 = .ok (.dup, 1) := by decide +kernel
theorem dX5_init_145 : decode cX5_init 145 = .ok (.aload_n 0, 1) := by decide +kernel
theorem dX5_init_146 : decode cX5_init 146 = .ok (.getfield 20, 3) := by decide +kernel
theorem dX5_init_149 : decode cX5_init 149 = .ok (.invokespecial 62, 3) := by decide +kernel
theorem dX5_init_152 : decode cX5_init 152 = .ok (.putfield 63, 3) := by decide +kernel
theorem dX5_init_155 : decode cX5_init 155 = .ok (.return_, 1) := by decide +kernel
theorem dX5_item_0 : decode cX5_item 0 = .ok (.aload_n 0, 1) := by decide +kernel
theorem dX5_item_1 : decode cX5_item 1 = .ok (.getfield 33, 3) := by decide +kernel
theorem dX5_item_4 : decode cX5_item 4 = .ok (.bipush 6, 2) := by decide +kernel
theorem dX5_item_6 : decode cX5_item 6 = .ok (.if_icmp .lt 6, 3) := by decide +kernel
theorem dX5_item_9 : decode cX5_item 9 = .ok (.bipush (-4), 2) := by decide +kernel
theorem dX5_item_11 : decode cX5_item 11 = .ok (.ireturn, 1) := by decide +kernel
theorem dX5_item_12 : decode cX5_item 12 = .ok (.aload_n 0, 1) := by decide +kernel
theorem dX5_item_13 : decode cX5_item 13 = .ok (.dup, 1) := by decide +kernel
theorem dX5_item_14 : decode cX5_item 14 = .ok (.getfield 33, 3) := by decide +kernel
theorem dX5_item_17 : decode cX5_item 17 = .ok (.iconst 1, 1) := by decide +kernel
theorem dX5_item_18 : decode cX5_item 18 = .ok (.iadd, 1) := by decide +kernel
theorem dX5_item_19 : decode cX5_item 19 = .ok (.putfield 33, 3) := by decide +kernel
theorem dX5_item_22 : decode cX5_item 22 = .ok (.aload_n 0, 1) := by decide +kernel
theorem dX5_item_23 : decode cX5_item 23 = .ok (.getfield 33, 3) := by decide +kernel
theorem dX5_item_26 : decode cX5_item 26 = .ok (.iconst 1, 1) := by decide +kernel
theorem dX5_item_27 : decode cX5_item 27 = .ok (.isub, 1) := by decide +kernel
theorem dX5_item_28 : decode cX5_item 28 = .ok (.ireturn, 1) := by decide +kernel
set_option maxRecDepth 20000 in
theorem ggX5_set_X5_isItem : GoodIn wsX5_set wsX5_isItem := goodIn_r _ [8, 9, 13, 14, 15, 16, 17, 18, 19, 20] (by decide +kernel) (by decide +kernel)
set_option maxRecDepth 20000 in
theorem gX5_set_X5_isItem : GoodIn wsX5_set (wsV RX5 67 RX5 yX5_isItem wsX5_isItem) := goodIn_app (goodIn_of _ (by decide +kernel)) ggX5_set_X5_isItem
set_option maxRecDepth 20000 in
theorem ggX5_set_X5_replace : GoodIn wsX5_set wsX5_replace := goodIn_r _ [12] (by decide +kernel) (by decide +kernel)
set_option maxRecDepth 20000 in
theorem gX5_set_X5_replace : GoodIn wsX5_set (va_wsS RX5 77 yX5_replace wsX5_replace) := goodIn_app (goodIn_of _ (by decide +kernel)) ggX5_set_X5_replace
theorem dX5_set_0 : decode cX5_set 0 = .ok (.aload_n 0, 1) := by decide +kernel
theorem dX5_set_1 : decode cX5_set 1 = .ok (.iload_n 1, 1) := by decide +kernel
theorem dX5_set_2 : decode cX5_set 2 = .ok (.invokevirtual 67, 3) := by decide +kernel
theorem dX5_set_5 : decode cX5_set 5 = .ok (.ifCond .ne 5, 3) := by decide +kernel
theorem dX5_set_8 : decode cX5_set 8 = .ok (.iconst (-1), 1) := by decide +kernel
theorem dX5_set_9 : decode cX5_set 9 = .ok (.ireturn, 1) := by decide +kernel
theorem dX5_set_10 : decode cX5_set 10 = .ok (.iload_n 2, 1) := by decide +kernel
theorem dX5_set_11 : decode cX5_set 11 = .ok (.ifCond .lt 9, 3) := by decide +kernel
theorem dX5_set_14 : decode cX5_set 14 = .ok (.iload_n 2, 1) := by decide +kernel
theorem dX5_set_15 : decode cX5_set 15 = .ok (.bipush 8, 2) := by decide +kernel
theorem dX5_set_17 : decode cX5_set 17 = .ok (.if_icmp .lt 6, 3) := by decide +kernel
theorem dX5_set_20 : decode cX5_set 20 = .ok (.bipush (-2), 2) := by decide +kernel
theorem dX5_set_22 : decode cX5_set 22 = .ok (.ireturn, 1) := by decide +kernel
theorem dX5_set_23 : decode cX5_set 23 = .ok (.aload_n 0, 1) := by decide +kernel
theorem dX5_set_24 : decode cX5_set 24 = .ok (.getfield 26, 3) := by decide +kernel
theorem dX5_set_27 : decode cX5_set 27 = .ok (.iload_n 1, 1) := by decide +kernel
theorem dX5_set_28 : decode cX5_set 28 = .ok (.aaload, 1) := by decide +kernel
theorem dX5_set_29 : decode cX5_set 29 = .ok (.getfield 71, 3) := by decide +kernel
theorem dX5_set_32 : decode cX5_set 32 = .ok (.iload_n 2, 1) := by decide +kernel
theorem dX5_set_33 : decode cX5_set 33 = .ok (.iload_n 3, 1) := by decide +kernel
theorem dX5_set_34 : decode cX5_set 34 = .ok (.getstatic 74, 3) := by decide +kernel
theorem dX5_set_37 : decode cX5_set 37 = .ok (.iload_n 2, 1) := by decide +kernel
theorem dX5_set_38 : decode cX5_set 38 = .ok (.iaload, 1) := by decide +kernel
theorem dX5_set_39 : decode cX5_set 39 = .ok (.invokestatic 77, 3) := by decide +kernel
theorem dX5_set_42 : decode cX5_set 42 = .ok (.ireturn, 1) := by decide +kernel
set_option maxRecDepth 20000 in
theorem ggX5_need_X5_isItem : GoodIn wsX5_need wsX5_isItem := goodIn_r _ [7, 8, 17, 18, 19, 20, 21, 22, 23, 24] (by decide +kernel) (by decide +kernel)
set_option maxRecDepth 20000 in
theorem gX5_need_X5_isItem : GoodIn wsX5_need (wsV RX5 67 RX5 yX5_isItem wsX5_isItem) := goodIn_app (goodIn_of _ (by decide +kernel)) ggX5_need_X5_isItem
set_option maxRecDepth 20000 in
theorem ggX5_need_X5_isPeriod : GoodIn wsX5_need wsX5_isPeriod := goodIn_r _ [12, 13, 17, 18, 19, 20, 21, 22, 23, 24] (by decide +kernel) (by decide +kernel)
set_option maxRecDepth 20000 in
theorem gX5_need_X5_isPeriod : GoodIn wsX5_need (wsV RX5 81 RX5 yX5_isPeriod wsX5_isPeriod) := goodIn_app (goodIn_of _ (by decide +kernel)) ggX5_need_X5_isPeriod
set_option maxRecDepth 20000 in
theorem ggX5_need_X5_replace : GoodIn wsX5_need wsX5_replace := goodIn_r _ [16] (by decide +kernel) (by decide +kernel)
set_option maxRecDepth 20000 in
theorem gX5_need_X5_replace : GoodIn wsX5_need (va_wsS RX5 77 yX5_replace wsX5_replace) := goodIn_app (goodIn_of _ (by decide +kernel)) ggX5_need_X5_replace
theorem dX5_need_0 : decode cX5_need 0 = .ok (.aload_n 0, 1) := by decide +kernel
theorem dX5_need_1 : decode cX5_need 1 = .ok (.iload_n 1, 1) := by decide +kernel
theorem dX5_need_2 : decode cX5_need 2 = .ok (.invokevirtual 67, 3) := by decide +kernel
theorem dX5_need_5 : decode cX5_need 5 = .ok (.ifCond .eq 11, 3) := by decide +kernel
theorem dX5_need_8 : decode cX5_need 8 = .ok (.aload_n 0, 1) := by decide +kernel
theorem dX5_need_9 : decode cX5_need 9 = .ok (.iload_n 2, 1) := by decide +kernel
theorem dX5_need_10 : decode cX5_need 10 = .ok (.invokevirtual 81, 3) := by decide +kernel
theorem dX5_need_13 : decode cX5_need 13 = .ok (.ifCond .ne 5, 3) := by decide +kernel
theorem dX5_need_16 : decode cX5_need 16 = .ok (.iconst (-1), 1) := by decide +kernel
theorem dX5_need_17 : decode cX5_need 17 = .ok (.ireturn, 1) := by decide +kernel
theorem dX5_need_18 : decode cX5_need 18 = .ok (.aload_n 0, 1) := by decide +kernel
theorem dX5_need_19 : decode cX5_need 19 = .ok (.getfield 26, 3) := by decide +kernel
theorem dX5_need_22 : decode cX5_need 22 = .ok (.iload_n 1, 1) := by decide +kernel
theorem dX5_need_23 : decode cX5_need 23 = .ok (.aaload, 1) := by decide +kernel
theorem dX5_need_24 : decode cX5_need 24 = .ok (.getfield 84, 3) := by decide +kernel
theorem dX5_need_27 : decode cX5_need 27 = .ok (.iload_n 2, 1) := by decide +kernel
theorem dX5_need_28 : decode cX5_need 28 = .ok (.iload_n 3, 1) := by decide +kernel
theorem dX5_need_29 : decode cX5_need 29 = .ok (.sipush 1000, 3) := by decide +kernel
theorem dX5_need_32 : decode cX5_need 32 = .ok (.invokestatic 77, 3) := by decide +kernel
theorem dX5_need_35 : decode cX5_need 35 = .ok (.ireturn, 1) := by decide +kernel
set_option maxRecDepth 20000 in
theorem ggX5_part_X5_isItem : GoodIn wsX5_part wsX5_isItem := goodIn_r _ [7, 8, 22, 23, 24, 25, 26, 27, 28, 29] (by decide +kernel) (by decide +kernel)
set_option maxRecDepth 20000 in
theorem gX5_part_X5_isItem : GoodIn wsX5_part (wsV RX5 67 RX5 yX5_isItem wsX5_isItem) := goodIn_app (goodIn_of _ (by decide +kernel)) ggX5_part_X5_isItem
set_option maxRecDepth 20000 in
theorem ggX5_part_X5_goesInto : GoodIn wsX5_part wsX5_goesInto := goodIn_r _ [12, 8, 1, 13, 14, 15, 16, 17, 18, 22, 23, 24, 25, 26, 27, 28, 29, 30, 31, 32, 33, 34] (by decide +kernel) (by decide +kernel)
set_option maxRecDepth 20000 in
theorem gX5_part_X5_goesInto : GoodIn wsX5_part (wsV RX5 87 RX5 yX5_goesInto wsX5_goesInto) := goodIn_app (goodIn_of _ (by decide +kernel)) ggX5_part_X5_goesInto
set_option maxRecDepth 20000 in
theorem ggX5_part_X5_replace : GoodIn wsX5_part wsX5_replace := goodIn_r _ [21] (by decide +kernel) (by decide +kernel)
set_option maxRecDepth 20000 in
theorem gX5_part_X5_replace : GoodIn wsX5_part (va_wsS RX5 77 yX5_replace wsX5_replace) := goodIn_app (goodIn_of _ (by decide +kernel)) ggX5_part_X5_replace
theorem dX5_part_0 : decode cX5_part 0 = .ok (.aload_n 0, 1) := by decide +kernel
theorem dX5_part_1 : decode cX5_part 1 = .ok (.iload_n 1, 1) := by decide +kernel
theorem dX5_part_2 : decode cX5_part 2 = .ok (.invokevirtual 67, 3) := by decide +kernel
theorem dX5_part_5 : decode cX5_part 5 = .ok (.ifCond .eq 11, 3) := by decide +kernel
theorem dX5_part_8 : decode cX5_part 8 = .ok (.aload_n 0, 1) := by decide +kernel
theorem dX5_part_9 : decode cX5_part 9 = .ok (.iload_n 2, 1) := by decide +kernel
theorem dX5_part_10 : decode cX5_part 10 = .ok (.invokevirtual 67, 3) := by decide +kernel
theorem dX5_part_13 : decode cX5_part 13 = .ok (.ifCond .ne 5, 3) := by decide +kernel
theorem dX5_part_16 : decode cX5_part 16 = .ok (.iconst (-1), 1) := by decide +kernel
theorem dX5_part_17 : decode cX5_part 17 = .ok (.ireturn, 1) := by decide +kernel
theorem dX5_part_18 : decode cX5_part 18 = .ok (.iload_n 3, 1) := by decide +kernel
theorem dX5_part_19 : decode cX5_part 19 = .ok (.ifCond .lt 9, 3) := by decide +kernel
theorem dX5_part_22 : decode cX5_part 22 = .ok (.iload_n 3, 1) := by decide +kernel
theorem dX5_part_23 : decode cX5_part 23 = .ok (.bipush 9, 2) := by decide +kernel
theorem dX5_part_25 : decode cX5_part 25 = .ok (.if_icmp .le 6, 3) := by decide +kernel
theorem dX5_part_28 : decode cX5_part 28 = .ok (.bipush (-2), 2) := by decide +kernel
theorem dX5_part_30 : decode cX5_part 30 = .ok (.ireturn, 1) := by decide +kernel
theorem dX5_part_31 : decode cX5_part 31 = .ok (.iload_n 3, 1) := by decide +kernel
theorem dX5_part_32 : decode cX5_part 32 = .ok (.ifCond .le 15, 3) := by decide +kernel
theorem dX5_part_35 : decode cX5_part 35 = .ok (.aload_n 0, 1) := by decide +kernel
theorem dX5_part_36 : decode cX5_part 36 = .ok (.iload_n 2, 1) := by decide +kernel
theorem dX5_part_37 : decode cX5_part 37 = .ok (.iload_n 1, 1) := by decide +kernel
theorem dX5_part_38 : decode cX5_part 38 = .ok (.invokevirtual 87, 3) := by decide +kernel
theorem dX5_part_41 : decode cX5_part 41 = .ok (.ifCond .eq 6, 3) := by decide +kernel
theorem dX5_part_44 : decode cX5_part 44 = .ok (.bipush (-3), 2) := by decide +kernel
theorem dX5_part_46 : decode cX5_part 46 = .ok (.ireturn, 1) := by decide +kernel
theorem dX5_part_47 : decode cX5_part 47 = .ok (.aload_n 0, 1) := by decide +kernel
theorem dX5_part_48 : decode cX5_part 48 = .ok (.getfield 26, 3) := by decide +kernel
theorem dX5_part_51 : decode cX5_part 51 = .ok (.iload_n 1, 1) := by decide +kernel
theorem dX5_part_52 : decode cX5_part 52 = .ok (.aaload, 1) := by decide +kernel
theorem dX5_part_53 : decode cX5_part 53 = .ok (.getfield 91, 3) := by decide +kernel
theorem dX5_part_56 : decode cX5_part 56 = .ok (.iload_n 2, 1) := by decide +kernel
theorem dX5_part_57 : decode cX5_part 57 = .ok (.iload_n 3, 1) := by decide +kernel
theorem dX5_part_58 : decode cX5_part 58 = .ok (.bipush 9, 2) := by decide +kernel
theorem dX5_part_60 : decode cX5_part 60 = .ok (.invokestatic 77, 3) := by decide +kernel
theorem dX5_part_63 : decode cX5_part 63 = .ok (.ireturn, 1) := by decide +kernel
set_option maxRecDepth 20000 in
theorem ggX5_make_X5_isItem : GoodIn wsX5_make wsX5_isItem := goodIn_r _ [7, 8, 17, 18, 19, 20, 21, 22, 23, 24] (by decide +kernel) (by decide +kernel)
set_option maxRecDepth 20000 in
theorem gX5_make_X5_isItem : GoodIn wsX5_make (wsV RX5 67 RX5 yX5_isItem wsX5_isItem) := goodIn_app (goodIn_of _ (by decide +kernel)) ggX5_make_X5_isItem
set_option maxRecDepth 20000 in
theorem ggX5_make_X5_isPeriod : GoodIn wsX5_make wsX5_isPeriod := goodIn_r _ [12, 13, 17, 18, 19, 20, 21, 22, 23, 24] (by decide +kernel) (by decide +kernel)
set_option maxRecDepth 20000 in
theorem gX5_make_X5_isPeriod : GoodIn wsX5_make (wsV RX5 81 RX5 yX5_isPeriod wsX5_isPeriod) := goodIn_app (goodIn_of _ (by decide +kernel)) ggX5_make_X5_isPeriod
set_option maxRecDepth 20000 in
theorem ggX5_make_X5_replace : GoodIn wsX5_make wsX5_replace := goodIn_r _ [16] (by decide +kernel) (by decide +kernel)
set_option maxRecDepth 20000 in
theorem gX5_make_X5_replace : GoodIn wsX5_make (va_wsS RX5 77 yX5_replace wsX5_replace) := goodIn_app (goodIn_of _ (by decide +kernel)) ggX5_make_X5_replace
theorem dX5_make_0 : decode cX5_make 0 = .ok (.aload_n 0, 1) := by decide +kernel
theorem dX5_make_1 : decode cX5_make 1 = .ok (.iload_n 1, 1) := by decide +kernel
theorem dX5_make_2 : decode cX5_make 2 = .ok (.invokevirtual 67, 3) := by decide +kernel
theorem dX5_make_5 : decode cX5_make 5 = .ok (.ifCond .eq 11, 3) := by decide +kernel
theorem dX5_make_8 : decode cX5_make 8 = .ok (.aload_n 0, 1) := by decide +kernel
theorem dX5_make_9 : decode cX5_make 9 = .ok (.iload_n 2, 1) := by decide +kernel
theorem dX5_make_10 : decode cX5_make 10 = .ok (.invokevirtual 81, 3) := by decide +kernel
theorem dX5_make_13 : decode cX5_make 13 = .ok (.ifCond .ne 5, 3) := by decide +kernel
theorem dX5_make_16 : decode cX5_make 16 = .ok (.iconst (-1), 1) := by decide +kernel
theorem dX5_make_17 : decode cX5_make 17 = .ok (.ireturn, 1) := by decide +kernel
theorem dX5_make_18 : decode cX5_make 18 = .ok (.aload_n 0, 1) := by decide +kernel
theorem dX5_make_19 : decode cX5_make 19 = .ok (.getfield 26, 3) := by decide +kernel
theorem dX5_make_22 : decode cX5_make 22 = .ok (.iload_n 1, 1) := by decide +kernel
theorem dX5_make_23 : decode cX5_make 23 = .ok (.aaload, 1) := by decide +kernel
theorem dX5_make_24 : decode cX5_make 24 = .ok (.getfield 94, 3) := by decide +kernel
theorem dX5_make_27 : decode cX5_make 27 = .ok (.iload_n 2, 1) := by decide +kernel
theorem dX5_make_28 : decode cX5_make 28 = .ok (.iload_n 3, 1) := by decide +kernel
theorem dX5_make_29 : decode cX5_make 29 = .ok (.sipush 5000, 3) := by decide +kernel
theorem dX5_make_32 : decode cX5_make 32 = .ok (.invokestatic 77, 3) := by decide +kernel
theorem dX5_make_35 : decode cX5_make 35 = .ok (.ireturn, 1) := by decide +kernel
set_option maxRecDepth 20000 in
theorem ggX5_capacity_X5_isPeriod : GoodIn wsX5_capacity wsX5_isPeriod := goodIn_r _ [6, 7, 11, 12, 13, 14, 15, 16, 17, 18] (by decide +kernel) (by decide +kernel)
set_option maxRecDepth 20000 in
theorem gX5_capacity_X5_isPeriod : GoodIn wsX5_capacity (wsV RX5 81 RX5 yX5_isPeriod wsX5_isPeriod) := goodIn_app (goodIn_of _ (by decide +kernel)) ggX5_capacity_X5_isPeriod
set_option maxRecDepth 20000 in
theorem ggX5_capacity_X5_replace : GoodIn wsX5_capacity wsX5_replace := goodIn_r _ [10] (by decide +kernel) (by decide +kernel)
set_option maxRecDepth 20000 in
theorem gX5_capacity_X5_replace : GoodIn wsX5_capacity (va_wsS RX5 77 yX5_replace wsX5_replace) := goodIn_app (goodIn_of _ (by decide +kernel)) ggX5_capacity_X5_replace
theorem dX5_capacity_0 : decode cX5_capacity 0 = .ok (.aload_n 0, 1) := by decide +kernel
theorem dX5_capacity_1 : decode cX5_capacity 1 = .ok (.iload_n 1, 1) := by decide +kernel
theorem dX5_capacity_2 : decode cX5_capacity 2 = .ok (.invokevirtual 81, 3) := by decide +kernel
theorem dX5_capacity_5 : decode cX5_capacity 5 = .ok (.ifCond .ne 5, 3) := by decide +kernel
theorem dX5_capacity_8 : decode cX5_capacity 8 = .ok (.iconst (-1), 1) := by decide +kernel
theorem dX5_capacity_9 : decode cX5_capacity 9 = .ok (.ireturn, 1) := by decide +kernel
theorem dX5_capacity_10 : decode cX5_capacity 10 = .ok (.aload_n 0, 1) := by decide +kernel
theorem dX5_capacity_11 : decode cX5_capacity 11 = .ok (.getfield 36, 3) := by decide +kernel
theorem dX5_capacity_14 : decode cX5_capacity 14 = .ok (.iload_n 1, 1) := by decide +kernel
theorem dX5_capacity_15 : decode cX5_capacity 15 = .ok (.iload_n 2, 1) := by decide +kernel
theorem dX5_capacity_16 : decode cX5_capacity 16 = .ok (.sipush 10000, 3) := by decide +kernel
theorem dX5_capacity_19 : decode cX5_capacity 19 = .ok (.invokestatic 77, 3) := by decide +kernel
theorem dX5_capacity_22 : decode cX5_capacity 22 = .ok (.ireturn, 1) := by decide +kernel
set_option maxRecDepth 20000 in
theorem ggX5_over_X5_replace : GoodIn wsX5_over wsX5_replace := goodIn_r _ [6] (by decide +kernel) (by decide +kernel)
set_option maxRecDepth 20000 in
theorem gX5_over_X5_replace : GoodIn wsX5_over (va_wsS RX5 77 yX5_replace wsX5_replace) := goodIn_app (goodIn_of _ (by decide +kernel)) ggX5_over_X5_replace
theorem dX5_over_0 : decode cX5_over 0 = .ok (.iload_n 1, 1) := by decide +kernel
theorem dX5_over_1 : decode cX5_over 1 = .ok (.ifCond .eq 11, 3) := by decide +kernel
theorem dX5_over_4 : decode cX5_over 4 = .ok (.iload_n 1, 1) := by decide +kernel
theorem dX5_over_5 : decode cX5_over 5 = .ok (.iconst 1, 1) := by decide +kernel
theorem dX5_over_6 : decode cX5_over 6 = .ok (.if_icmp .eq 6, 3) := by decide +kernel
theorem dX5_over_9 : decode cX5_over 9 = .ok (.bipush (-2), 2) := by decide +kernel
theorem dX5_over_11 : decode cX5_over 11 = .ok (.ireturn, 1) := by decide +kernel
theorem dX5_over_12 : decode cX5_over 12 = .ok (.aload_n 0, 1) := by decide +kernel
theorem dX5_over_13 : decode cX5_over 13 = .ok (.getfield 43, 3) := by decide +kernel
theorem dX5_over_16 : decode cX5_over 16 = .ok (.iload_n 1, 1) := by decide +kernel
theorem dX5_over_17 : decode cX5_over 17 = .ok (.iload_n 2, 1) := by decide +kernel
theorem dX5_over_18 : decode cX5_over 18 = .ok (.getstatic 40, 3) := by decide +kernel
theorem dX5_over_21 : decode cX5_over 21 = .ok (.iload_n 1, 1) := by decide +kernel
theorem dX5_over_22 : decode cX5_over 22 = .ok (.iaload, 1) := by decide +kernel
theorem dX5_over_23 : decode cX5_over 23 = .ok (.invokestatic 77, 3) := by decide +kernel
theorem dX5_over_26 : decode cX5_over 26 = .ok (.ireturn, 1) := by decide +kernel
set_option maxRecDepth 20000 in
theorem ggX5_gross_X5_isItem : GoodIn wsX5_gross wsX5_isItem := goodIn_r _ [5, 6, 20, 21, 22, 23, 24, 25, 26, 27] (by decide +kernel) (by decide +kernel)
set_option maxRecDepth 20000 in
theorem gX5_gross_X5_isItem : GoodIn wsX5_gross (wsV RX5 67 RX5 yX5_isItem wsX5_isItem) := goodIn_app (goodIn_of _ (by decide +kernel)) ggX5_gross_X5_isItem
set_option maxRecDepth 20000 in
theorem ggX5_gross_X5_isPeriod : GoodIn wsX5_gross wsX5_isPeriod := goodIn_r _ [10, 11, 20, 21, 22, 23, 24, 25, 26, 27] (by decide +kernel) (by decide +kernel)
set_option maxRecDepth 20000 in
theorem gX5_gross_X5_isPeriod : GoodIn wsX5_gross (wsV RX5 81 RX5 yX5_isPeriod wsX5_isPeriod) := goodIn_app (goodIn_of _ (by decide +kernel)) ggX5_gross_X5_isPeriod
set_option maxRecDepth 20000 in
theorem ggX5_gross_X5_grossOf : GoodIn wsX5_gross wsX5_grossOf := goodIn_r _ [15, 16, 17, 6, 18, 19, 20, 21, 22, 23, 24, 25, 26, 27, 28, 29, 30, 31, 32] (by decide +kernel) (by decide +kernel)
set_option maxRecDepth 20000 in
theorem gX5_gross_X5_grossOf : GoodIn wsX5_gross (wsV RX5 97 RX5 yX5_grossOf wsX5_grossOf) := goodIn_app (goodIn_of _ (by decide +kernel)) ggX5_gross_X5_grossOf
theorem dX5_gross_0 : decode cX5_gross 0 = .ok (.aload_n 0, 1) := by decide +kernel
theorem dX5_gross_1 : decode cX5_gross 1 = .ok (.iload_n 1, 1) := by decide +kernel
theorem dX5_gross_2 : decode cX5_gross 2 = .ok (.invokevirtual 67, 3) := by decide +kernel
theorem dX5_gross_5 : decode cX5_gross 5 = .ok (.ifCond .eq 11, 3) := by decide +kernel
theorem dX5_gross_8 : decode cX5_gross 8 = .ok (.aload_n 0, 1) := by decide +kernel
theorem dX5_gross_9 : decode cX5_gross 9 = .ok (.iload_n 2, 1) := by decide +kernel
theorem dX5_gross_10 : decode cX5_gross 10 = .ok (.invokevirtual 81, 3) := by decide +kernel
theorem dX5_gross_13 : decode cX5_gross 13 = .ok (.ifCond .ne 5, 3) := by decide +kernel
theorem dX5_gross_16 : decode cX5_gross 16 = .ok (.iconst (-1), 1) := by decide +kernel
theorem dX5_gross_17 : decode cX5_gross 17 = .ok (.ireturn, 1) := by decide +kernel
theorem dX5_gross_18 : decode cX5_gross 18 = .ok (.aload_n 0, 1) := by decide +kernel
theorem dX5_gross_19 : decode cX5_gross 19 = .ok (.iload_n 1, 1) := by decide +kernel
theorem dX5_gross_20 : decode cX5_gross 20 = .ok (.iload_n 2, 1) := by decide +kernel
theorem dX5_gross_21 : decode cX5_gross 21 = .ok (.invokevirtual 97, 3) := by decide +kernel
theorem dX5_gross_24 : decode cX5_gross 24 = .ok (.ireturn, 1) := by decide +kernel
set_option maxRecDepth 20000 in
theorem ggX5_stock_X5_isItem : GoodIn wsX5_stock wsX5_isItem := goodIn_r _ [9, 10, 70, 71, 72, 73, 74, 75, 76, 77] (by decide +kernel) (by decide +kernel)
set_option maxRecDepth 20000 in
theorem gX5_stock_X5_isItem : GoodIn wsX5_stock (wsV RX5 67 RX5 yX5_isItem wsX5_isItem) := goodIn_app (goodIn_of _ (by decide +kernel)) ggX5_stock_X5_isItem
set_option maxRecDepth 20000 in
theorem ggX5_stock_X5_isPeriodOrBeginning : GoodIn wsX5_stock wsX5_isPeriodOrBeginning := goodIn_r _ [14, 15, 16, 17, 8, 18, 19, 70, 71, 72, 73, 74, 75, 76, 77] (by decide +kernel) (by decide +kernel)
set_option maxRecDepth 20000 in
theorem gX5_stock_X5_isPeriodOrBeginning : GoodIn wsX5_stock (wsV RX5 100 RX5 yX5_isPeriodOrBeginning wsX5_isPeriodOrBeginning) := goodIn_app (goodIn_of _ (by decide +kernel)) ggX5_stock_X5_isPeriodOrBeginning
set_option maxRecDepth 20000 in
theorem ggX5_stock_X5_runItem : GoodIn wsX5_stock wsX5_runItem := goodIn_r _ [23, 2, 3, 24, 19, 25, 26, 27, 28, 29, 30, 31, 32, 33, 34, 35, 36, 37, 38, 39, 40, 41, 8, 42, 43, 10, 44, 45, 46, 47, 48, 49, 50, 51, 52, 53, 54, 55, 56, 57, 58, 59, 60, 61, 62, 63, 64, 65, 66, 67, 68, 69, 70, 71, 72, 73, 74, 75, 76, 77, 78, 79, 80, 81, 82, 83, 84, 85] (by decide +kernel) (by decide +kernel)
set_option maxRecDepth 20000 in
theorem gX5_stock_X5_runItem : GoodIn wsX5_stock (wsV RX5 105 RX5 yX5_runItem wsX5_runItem) := goodIn_app (goodIn_of _ (by decide +kernel)) ggX5_stock_X5_runItem
theorem dX5_stock_0 : decode cX5_stock 0 = .ok (.aload_n 0, 1) := by decide +kernel
theorem dX5_stock_1 : decode cX5_stock 1 = .ok (.iload_n 1, 1) := by decide +kernel
theorem dX5_stock_2 : decode cX5_stock 2 = .ok (.invokevirtual 67, 3) := by decide +kernel
theorem dX5_stock_5 : decode cX5_stock 5 = .ok (.ifCond .eq 11, 3) := by decide +kernel
theorem dX5_stock_8 : decode cX5_stock 8 = .ok (.aload_n 0, 1) := by decide +kernel
theorem dX5_stock_9 : decode cX5_stock 9 = .ok (.iload_n 2, 1) := by decide +kernel
theorem dX5_stock_10 : decode cX5_stock 10 = .ok (.invokevirtual 100, 3) := by decide +kernel
theorem dX5_stock_13 : decode cX5_stock 13 = .ok (.ifCond .ne 7, 3) := by decide +kernel
theorem dX5_stock_16 : decode cX5_stock 16 = .ok (.ldc2_w 103, 3) := by decide +kernel
theorem dX5_stock_19 : decode cX5_stock 19 = .ok (.lreturn, 1) := by decide +kernel
theorem dX5_stock_20 : decode cX5_stock 20 = .ok (.aload_n 0, 1) := by decide +kernel
theorem dX5_stock_21 : decode cX5_stock 21 = .ok (.iload_n 1, 1) := by decide +kernel
theorem dX5_stock_22 : decode cX5_stock 22 = .ok (.invokevirtual 105, 3) := by decide +kernel
theorem dX5_stock_25 : decode cX5_stock 25 = .ok (.aload_n 0, 1) := by decide +kernel
theorem dX5_stock_26 : decode cX5_stock 26 = .ok (.getfield 26, 3) := by decide +kernel
theorem dX5_stock_29 : decode cX5_stock 29 = .ok (.iload_n 1, 1) := by decide +kernel
theorem dX5_stock_30 : decode cX5_stock 30 = .ok (.aaload, 1) := by decide +kernel
theorem dX5_stock_31 : decode cX5_stock 31 = .ok (.getfield 108, 3) := by decide +kernel
theorem dX5_stock_34 : decode cX5_stock 34 = .ok (.getfield 112, 3) := by decide +kernel
theorem dX5_stock_37 : decode cX5_stock 37 = .ok (.iload_n 2, 1) := by decide +kernel
theorem dX5_stock_38 : decode cX5_stock 38 = .ok (.iaload, 1) := by decide +kernel
theorem dX5_stock_39 : decode cX5_stock 39 = .ok (.i2l, 1) := by decide +kernel
theorem dX5_stock_40 : decode cX5_stock 40 = .ok (.lreturn, 1) := by decide +kernel
set_option maxRecDepth 20000 in
theorem ggX5_spoilt_X5_isItem : GoodIn wsX5_spoilt wsX5_isItem := goodIn_r _ [8, 9, 65, 66, 67, 68, 69, 70, 71, 72] (by decide +kernel) (by decide +kernel)
set_option maxRecDepth 20000 in
theorem gX5_spoilt_X5_isItem : GoodIn wsX5_spoilt (wsV RX5 67 RX5 yX5_isItem wsX5_isItem) := goodIn_app (goodIn_of _ (by decide +kernel)) ggX5_spoilt_X5_isItem
set_option maxRecDepth 20000 in
theorem ggX5_spoilt_X5_isPeriod : GoodIn wsX5_spoilt wsX5_isPeriod := goodIn_r _ [13, 14, 65, 66, 67, 68, 69, 70, 71, 72] (by decide +kernel) (by decide +kernel)
set_option maxRecDepth 20000 in
theorem gX5_spoilt_X5_isPeriod : GoodIn wsX5_spoilt (wsV RX5 81 RX5 yX5_isPeriod wsX5_isPeriod) := goodIn_app (goodIn_of _ (by decide +kernel)) ggX5_spoilt_X5_isPeriod
set_option maxRecDepth 20000 in
theorem ggX5_spoilt_X5_runItem : GoodIn wsX5_spoilt wsX5_runItem := goodIn_r _ [18, 1, 2, 19, 14, 20, 21, 22, 23, 24, 25, 26, 27, 28, 29, 30, 31, 32, 33, 34, 35, 36, 7, 37, 38, 9, 39, 40, 41, 42, 43, 44, 45, 46, 47, 48, 49, 50, 51, 52, 53, 54, 55, 56, 57, 58, 59, 60, 61, 62, 63, 64, 65, 66, 67, 68, 69, 70, 71, 72, 73, 74, 75, 76, 77, 78, 79, 80] (by decide +kernel) (by decide +kernel)
set_option maxRecDepth 20000 in
theorem gX5_spoilt_X5_runItem : GoodIn wsX5_spoilt (wsV RX5 105 RX5 yX5_runItem wsX5_runItem) := goodIn_app (goodIn_of _ (by decide +kernel)) ggX5_spoilt_X5_runItem
theorem dX5_spoilt_0 : decode cX5_spoilt 0 = .ok (.aload_n 0, 1) := by decide +kernel
theorem dX5_spoilt_1 : decode cX5_spoilt 1 = .ok (.iload_n 1, 1) := by decide +kernel
theorem dX5_spoilt_2 : decode cX5_spoilt 2 = .ok (.invokevirtual 67, 3) := by decide +kernel
theorem dX5_spoilt_5 : decode cX5_spoilt 5 = .ok (.ifCond .eq 11, 3) := by decide +kernel
theorem dX5_spoilt_8 : decode cX5_spoilt 8 = .ok (.aload_n 0, 1) := by decide +kernel
theorem dX5_spoilt_9 : decode cX5_spoilt 9 = .ok (.iload_n 2, 1) := by decide +kernel
theorem dX5_spoilt_10 : decode cX5_spoilt 10 = .ok (.invokevirtual 81, 3) := by decide +kernel
theorem dX5_spoilt_13 : decode cX5_spoilt 13 = .ok (.ifCond .ne 5, 3) := by decide +kernel
theorem dX5_spoilt_16 : decode cX5_spoilt 16 = .ok (.iconst (-1), 1) := by decide +kernel
theorem dX5_spoilt_17 : decode cX5_spoilt 17 = .ok (.ireturn, 1) := by decide +kernel
theorem dX5_spoilt_18 : decode cX5_spoilt 18 = .ok (.aload_n 0, 1) := by decide +kernel
theorem dX5_spoilt_19 : decode cX5_spoilt 19 = .ok (.iload_n 1, 1) := by decide +kernel
theorem dX5_spoilt_20 : decode cX5_spoilt 20 = .ok (.invokevirtual 105, 3) := by decide +kernel
theorem dX5_spoilt_23 : decode cX5_spoilt 23 = .ok (.aload_n 0, 1) := by decide +kernel
theorem dX5_spoilt_24 : decode cX5_spoilt 24 = .ok (.getfield 26, 3) := by decide +kernel
theorem dX5_spoilt_27 : decode cX5_spoilt 27 = .ok (.iload_n 1, 1) := by decide +kernel
theorem dX5_spoilt_28 : decode cX5_spoilt 28 = .ok (.aaload, 1) := by decide +kernel
theorem dX5_spoilt_29 : decode cX5_spoilt 29 = .ok (.getfield 108, 3) := by decide +kernel
theorem dX5_spoilt_32 : decode cX5_spoilt 32 = .ok (.getfield 117, 3) := by decide +kernel
theorem dX5_spoilt_35 : decode cX5_spoilt 35 = .ok (.iload_n 2, 1) := by decide +kernel
theorem dX5_spoilt_36 : decode cX5_spoilt 36 = .ok (.iaload, 1) := by decide +kernel
theorem dX5_spoilt_37 : decode cX5_spoilt 37 = .ok (.ireturn, 1) := by decide +kernel
set_option maxRecDepth 20000 in
theorem ggX5_isSetUp_X5_isItem : GoodIn wsX5_isSetUp wsX5_isItem := goodIn_r _ [8, 3, 26, 27, 28, 29, 30, 31, 32, 33] (by decide +kernel) (by decide +kernel)
set_option maxRecDepth 20000 in
theorem gX5_isSetUp_X5_isItem : GoodIn wsX5_isSetUp (wsV RX5 67 RX5 yX5_isItem wsX5_isItem) := goodIn_app (goodIn_of _ (by decide +kernel)) ggX5_isSetUp_X5_isItem
set_option maxRecDepth 20000 in
theorem ggX5_isSetUp_X5_isPeriod : GoodIn wsX5_isSetUp wsX5_isPeriod := goodIn_r _ [12, 13, 26, 27, 28, 29, 30, 31, 32, 33] (by decide +kernel) (by decide +kernel)
set_option maxRecDepth 20000 in
theorem gX5_isSetUp_X5_isPeriod : GoodIn wsX5_isSetUp (wsV RX5 81 RX5 yX5_isPeriod wsX5_isPeriod) := goodIn_app (goodIn_of _ (by decide +kernel)) ggX5_isSetUp_X5_isPeriod
set_option maxRecDepth 20000 in
theorem ggX5_isSetUp_X3_follow : GoodIn wsX5_isSetUp wsX3_follow := goodIn_r _ [18, 19, 20, 21, 34, 35, 36, 37, 38, 39, 40] (by decide +kernel) (by decide +kernel)
set_option maxRecDepth 20000 in
theorem gX5_isSetUp_X3_follow : GoodIn wsX5_isSetUp (wsV RX5 120 RX3 yX3_follow wsX3_follow) := goodIn_app (goodIn_of _ (by decide +kernel)) ggX5_isSetUp_X3_follow
set_option maxRecDepth 20000 in
theorem ggX5_isSetUp_X3_setsUp : GoodIn wsX5_isSetUp wsX3_setsUp := goodIn_r _ [25, 20, 34, 35] (by decide +kernel) (by decide +kernel)
set_option maxRecDepth 20000 in
theorem gX5_isSetUp_X3_setsUp : GoodIn wsX5_isSetUp (wsV RX5 124 RX3 yX3_setsUp wsX3_setsUp) := goodIn_app (goodIn_of _ (by decide +kernel)) ggX5_isSetUp_X3_setsUp
theorem dX5_isSetUp_0 : decode cX5_isSetUp 0 = .ok (.aload_n 0, 1) := by decide +kernel
theorem dX5_isSetUp_1 : decode cX5_isSetUp 1 = .ok (.iload_n 1, 1) := by decide +kernel
theorem dX5_isSetUp_2 : decode cX5_isSetUp 2 = .ok (.invokevirtual 67, 3) := by decide +kernel
theorem dX5_isSetUp_5 : decode cX5_isSetUp 5 = .ok (.ifCond .eq 11, 3) := by decide +kernel
theorem dX5_isSetUp_8 : decode cX5_isSetUp 8 = .ok (.aload_n 0, 1) := by decide +kernel
theorem dX5_isSetUp_9 : decode cX5_isSetUp 9 = .ok (.iload_n 2, 1) := by decide +kernel
theorem dX5_isSetUp_10 : decode cX5_isSetUp 10 = .ok (.invokevirtual 81, 3) := by decide +kernel
theorem dX5_isSetUp_13 : decode cX5_isSetUp 13 = .ok (.ifCond .ne 5, 3) := by decide +kernel
theorem dX5_isSetUp_16 : decode cX5_isSetUp 16 = .ok (.iconst (-1), 1) := by decide +kernel
theorem dX5_isSetUp_17 : decode cX5_isSetUp 17 = .ok (.ireturn, 1) := by decide +kernel
theorem dX5_isSetUp_18 : decode cX5_isSetUp 18 = .ok (.aload_n 0, 1) := by decide +kernel
theorem dX5_isSetUp_19 : decode cX5_isSetUp 19 = .ok (.getfield 49, 3) := by decide +kernel
theorem dX5_isSetUp_22 : decode cX5_isSetUp 22 = .ok (.aload_n 0, 1) := by decide +kernel
theorem dX5_isSetUp_23 : decode cX5_isSetUp 23 = .ok (.getfield 26, 3) := by decide +kernel
theorem dX5_isSetUp_26 : decode cX5_isSetUp 26 = .ok (.aload_n 0, 1) := by decide +kernel
theorem dX5_isSetUp_27 : decode cX5_isSetUp 27 = .ok (.getfield 33, 3) := by decide +kernel
theorem dX5_isSetUp_30 : decode cX5_isSetUp 30 = .ok (.invokevirtual 120, 3) := by decide +kernel
theorem dX5_isSetUp_33 : decode cX5_isSetUp 33 = .ok (.aload_n 0, 1) := by decide +kernel
theorem dX5_isSetUp_34 : decode cX5_isSetUp 34 = .ok (.getfield 49, 3) := by decide +kernel
theorem dX5_isSetUp_37 : decode cX5_isSetUp 37 = .ok (.iload_n 1, 1) := by decide +kernel
theorem dX5_isSetUp_38 : decode cX5_isSetUp 38 = .ok (.iload_n 2, 1) := by decide +kernel
theorem dX5_isSetUp_39 : decode cX5_isSetUp 39 = .ok (.invokevirtual 124, 3) := by decide +kernel
theorem dX5_isSetUp_42 : decode cX5_isSetUp 42 = .ok (.ifCond .eq 7, 3) := by decide +kernel
theorem dX5_isSetUp_45 : decode cX5_isSetUp 45 = .ok (.iconst 1, 1) := by decide +kernel
theorem dX5_isSetUp_46 : decode cX5_isSetUp 46 = .ok (.goto 4, 3) := by decide +kernel
theorem dX5_isSetUp_49 : decode cX5_isSetUp 49 = .ok (.iconst 0, 1) := by decide +kernel
theorem dX5_isSetUp_50 : decode cX5_isSetUp 50 = .ok (.ireturn, 1) := by decide +kernel
set_option maxRecDepth 20000 in
theorem ggX5_stands_X5_isPeriodOrBeginning : GoodIn wsX5_stands wsX5_isPeriodOrBeginning := goodIn_r _ [9, 10, 11, 12, 8, 13, 14, 23, 24, 25, 26, 27, 28, 29, 30] (by decide +kernel) (by decide +kernel)
set_option maxRecDepth 20000 in
theorem gX5_stands_X5_isPeriodOrBeginning : GoodIn wsX5_stands (wsV RX5 100 RX5 yX5_isPeriodOrBeginning wsX5_isPeriodOrBeginning) := goodIn_app (goodIn_of _ (by decide +kernel)) ggX5_stands_X5_isPeriodOrBeginning
set_option maxRecDepth 20000 in
theorem ggX5_stands_X3_follow : GoodIn wsX5_stands wsX3_follow := goodIn_r _ [19, 20, 21, 22, 31, 32, 33, 34, 35, 36, 37] (by decide +kernel) (by decide +kernel)
set_option maxRecDepth 20000 in
theorem gX5_stands_X3_follow : GoodIn wsX5_stands (wsV RX5 120 RX3 yX3_follow wsX3_follow) := goodIn_app (goodIn_of _ (by decide +kernel)) ggX5_stands_X3_follow
theorem dX5_stands_0 : decode cX5_stands 0 = .ok (.aload_n 0, 1) := by decide +kernel
theorem dX5_stands_1 : decode cX5_stands 1 = .ok (.iload_n 1, 1) := by decide +kernel
theorem dX5_stands_2 : decode cX5_stands 2 = .ok (.invokevirtual 100, 3) := by decide +kernel
theorem dX5_stands_5 : decode cX5_stands 5 = .ok (.ifCond .ne 5, 3) := by decide +kernel
theorem dX5_stands_8 : decode cX5_stands 8 = .ok (.iconst (-1), 1) := by decide +kernel
theorem dX5_stands_9 : decode cX5_stands 9 = .ok (.ireturn, 1) := by decide +kernel
theorem dX5_stands_10 : decode cX5_stands 10 = .ok (.aload_n 0, 1) := by decide +kernel
theorem dX5_stands_11 : decode cX5_stands 11 = .ok (.getfield 49, 3) := by decide +kernel
theorem dX5_stands_14 : decode cX5_stands 14 = .ok (.aload_n 0, 1) := by decide +kernel
theorem dX5_stands_15 : decode cX5_stands 15 = .ok (.getfield 26, 3) := by decide +kernel
theorem dX5_stands_18 : decode cX5_stands 18 = .ok (.aload_n 0, 1) := by decide +kernel
theorem dX5_stands_19 : decode cX5_stands 19 = .ok (.getfield 33, 3) := by decide +kernel
theorem dX5_stands_22 : decode cX5_stands 22 = .ok (.invokevirtual 120, 3) := by decide +kernel
theorem dX5_stands_25 : decode cX5_stands 25 = .ok (.aload_n 0, 1) := by decide +kernel
theorem dX5_stands_26 : decode cX5_stands 26 = .ok (.getfield 49, 3) := by decide +kernel
theorem dX5_stands_29 : decode cX5_stands 29 = .ok (.getfield 127, 3) := by decide +kernel
theorem dX5_stands_32 : decode cX5_stands 32 = .ok (.iload_n 1, 1) := by decide +kernel
theorem dX5_stands_33 : decode cX5_stands 33 = .ok (.iaload, 1) := by decide +kernel
theorem dX5_stands_34 : decode cX5_stands 34 = .ok (.ireturn, 1) := by decide +kernel
set_option maxRecDepth 20000 in
theorem ggX5_time_X5_isPeriod : GoodIn wsX5_time wsX5_isPeriod := goodIn_r _ [9, 10, 29, 30, 31, 32, 33, 34, 35, 36] (by decide +kernel) (by decide +kernel)
set_option maxRecDepth 20000 in
theorem gX5_time_X5_isPeriod : GoodIn wsX5_time (wsV RX5 81 RX5 yX5_isPeriod wsX5_isPeriod) := goodIn_app (goodIn_of _ (by decide +kernel)) ggX5_time_X5_isPeriod
set_option maxRecDepth 20000 in
theorem ggX5_time_X3_follow : GoodIn wsX5_time wsX3_follow := goodIn_r _ [15, 16, 17, 18, 37, 38, 39, 40, 41, 42, 43] (by decide +kernel) (by decide +kernel)
set_option maxRecDepth 20000 in
theorem gX5_time_X3_follow : GoodIn wsX5_time (wsV RX5 120 RX3 yX3_follow wsX3_follow) := goodIn_app (goodIn_of _ (by decide +kernel)) ggX5_time_X3_follow
set_option maxRecDepth 20000 in
theorem ggX5_time_X5_timeOf : GoodIn wsX5_time wsX5_timeOf := goodIn_r _ [22, 4, 3, 23, 24, 2, 25, 26, 27, 14, 28, 17, 29, 30, 31, 32, 33, 34, 35, 36, 39, 40, 41, 42, 43, 37, 38] (by decide +kernel) (by decide +kernel)
set_option maxRecDepth 20000 in
theorem gX5_time_X5_timeOf : GoodIn wsX5_time (wsV RX5 130 RX5 yX5_timeOf wsX5_timeOf) := goodIn_app (goodIn_of _ (by decide +kernel)) ggX5_time_X5_timeOf
theorem dX5_time_0 : decode cX5_time 0 = .ok (.aload_n 0, 1) := by decide +kernel
theorem dX5_time_1 : decode cX5_time 1 = .ok (.iload_n 1, 1) := by decide +kernel
theorem dX5_time_2 : decode cX5_time 2 = .ok (.invokevirtual 81, 3) := by decide +kernel
theorem dX5_time_5 : decode cX5_time 5 = .ok (.ifCond .ne 7, 3) := by decide +kernel
theorem dX5_time_8 : decode cX5_time 8 = .ok (.ldc2_w 103, 3) := by decide +kernel
theorem dX5_time_11 : decode cX5_time 11 = .ok (.lreturn, 1) := by decide +kernel
theorem dX5_time_12 : decode cX5_time 12 = .ok (.aload_n 0, 1) := by decide +kernel
theorem dX5_time_13 : decode cX5_time 13 = .ok (.getfield 49, 3) := by decide +kernel
theorem dX5_time_16 : decode cX5_time 16 = .ok (.aload_n 0, 1) := by decide +kernel
theorem dX5_time_17 : decode cX5_time 17 = .ok (.getfield 26, 3) := by decide +kernel
theorem dX5_time_20 : decode cX5_time 20 = .ok (.aload_n 0, 1) := by decide +kernel
theorem dX5_time_21 : decode cX5_time 21 = .ok (.getfield 33, 3) := by decide +kernel
theorem dX5_time_24 : decode cX5_time 24 = .ok (.invokevirtual 120, 3) := by decide +kernel
theorem dX5_time_27 : decode cX5_time 27 = .ok (.aload_n 0, 1) := by decide +kernel
theorem dX5_time_28 : decode cX5_time 28 = .ok (.iload_n 1, 1) := by decide +kernel
theorem dX5_time_29 : decode cX5_time 29 = .ok (.invokevirtual 130, 3) := by decide +kernel
theorem dX5_time_32 : decode cX5_time 32 = .ok (.lreturn, 1) := by decide +kernel
set_option maxRecDepth 20000 in
theorem ggX5_price_X5_isPrice : GoodIn wsX5_price wsX5_isPrice := goodIn_r _ [5] (by decide +kernel) (by decide +kernel)
set_option maxRecDepth 20000 in
theorem gX5_price_X5_isPrice : GoodIn wsX5_price (va_wsS RX5 134 yX5_isPrice wsX5_isPrice) := goodIn_app (goodIn_of _ (by decide +kernel)) ggX5_price_X5_isPrice
set_option maxRecDepth 20000 in
theorem ggX5_price_X5_priceOf : GoodIn wsX5_price wsX5_priceOf := goodIn_r _ [9, 10, 11, 12, 4, 13, 14, 15, 16, 17, 18, 19, 20, 21, 22, 23, 24, 25, 26, 27, 28, 29, 30, 31, 32, 33, 34, 35, 36, 37, 38, 39, 40, 41, 42, 43, 44, 45, 46, 47, 48, 49, 50, 51, 52, 53, 54, 55, 56, 57, 58, 59, 60, 61, 62, 63, 64, 65, 66, 67, 68, 69, 70, 71, 72, 73, 74, 75, 76, 77, 78, 79, 80, 81, 82, 83, 84, 85, 86, 87, 88, 89, 90, 91, 92, 93, 94, 95, 96, 97, 98, 99, 100, 101, 102, 103, 104, 105, 106, 107, 108, 109, 110, 111, 112, 113, 114, 115, 116, 117, 118, 119, 120, 121] (by decide +kernel) (by decide +kernel)
set_option maxRecDepth 20000 in
theorem gX5_price_X5_priceOf : GoodIn wsX5_price (wsV RX5 137 RX5 yX5_priceOf wsX5_priceOf) := goodIn_app (goodIn_of _ (by decide +kernel)) ggX5_price_X5_priceOf
theorem dX5_price_0 : decode cX5_price 0 = .ok (.iload_n 1, 1) := by decide +kernel
theorem dX5_price_1 : decode cX5_price 1 = .ok (.invokestatic 134, 3) := by decide +kernel
theorem dX5_price_4 : decode cX5_price 4 = .ok (.ifCond .eq 11, 3) := by decide +kernel
theorem dX5_price_7 : decode cX5_price 7 = .ok (.aload_n 0, 1) := by decide +kernel
theorem dX5_price_8 : decode cX5_price 8 = .ok (.iload_n 1, 1) := by decide +kernel
theorem dX5_price_9 : decode cX5_price 9 = .ok (.invokevirtual 137, 3) := by decide +kernel
theorem dX5_price_12 : decode cX5_price 12 = .ok (.goto 6, 3) := by decide +kernel
theorem dX5_price_15 : decode cX5_price 15 = .ok (.ldc2_w 103, 3) := by decide +kernel
theorem dX5_price_18 : decode cX5_price 18 = .ok (.lreturn, 1) := by decide +kernel
set_option maxRecDepth 20000 in
theorem ggX5_faults_X5_findFaults : GoodIn wsX5_faults wsX5_findFaults := goodIn_r _ [7, 8, 9, 10, 1, 2, 11, 12, 13, 14, 6, 15, 16, 17, 18, 19, 20, 21, 22, 23, 24, 25, 26, 27, 28, 29, 30, 31, 32, 33, 34, 35, 36, 37, 38, 39, 40, 41, 42, 43, 44, 45, 46, 47, 48, 49, 50, 51, 52, 53, 54, 55, 56, 57, 58, 59, 60, 61, 62, 63, 64, 65, 66, 67, 68, 69, 70, 71, 72, 73, 74, 75, 76, 77, 78, 79, 80, 81, 82, 83, 84, 85, 86, 87, 88, 89, 90, 91, 92, 93, 94, 95, 96, 97, 98, 99, 100, 101, 102, 103, 104, 105, 106, 107, 108, 109, 110, 111, 112, 113, 114, 115, 116, 117, 118, 119, 120, 121, 122, 123, 124, 125, 126, 127] (by decide +kernel) (by decide +kernel)
set_option maxRecDepth 20000 in
theorem gX5_faults_X5_findFaults : GoodIn wsX5_faults (wsV RX5 140 RX5 yX5_findFaults wsX5_findFaults) := goodIn_app (goodIn_of _ (by decide +kernel)) ggX5_faults_X5_findFaults
theorem dX5_faults_0 : decode cX5_faults 0 = .ok (.aload_n 0, 1) := by decide +kernel
theorem dX5_faults_1 : decode cX5_faults 1 = .ok (.invokevirtual 140, 3) := by decide +kernel
theorem dX5_faults_4 : decode cX5_faults 4 = .ok (.aload_n 0, 1) := by decide +kernel
theorem dX5_faults_5 : decode cX5_faults 5 = .ok (.getfield 56, 3) := by decide +kernel
theorem dX5_faults_8 : decode cX5_faults 8 = .ok (.getfield 143, 3) := by decide +kernel
theorem dX5_faults_11 : decode cX5_faults 11 = .ok (.ireturn, 1) := by decide +kernel
set_option maxRecDepth 20000 in
theorem ggX5_fault_X5_findFaults : GoodIn wsX5_fault wsX5_findFaults := goodIn_r _ [7, 8, 9, 10, 1, 2, 11, 12, 13, 14, 6, 15, 16, 17, 18, 19, 20, 21, 22, 23, 24, 25, 26, 27, 28, 29, 30, 31, 32, 33, 34, 35, 36, 37, 38, 39, 40, 41, 42, 43, 44, 45, 46, 47, 48, 49, 50, 51, 52, 53, 54, 55, 56, 57, 58, 59, 60, 61, 62, 63, 64, 65, 66, 67, 68, 69, 70, 71, 72, 73, 74, 75, 76, 77, 78, 79, 80, 81, 82, 83, 84, 85, 86, 87, 88, 89, 90, 91, 92, 93, 94, 95, 96, 97, 98, 99, 100, 101, 102, 103, 104, 105, 106, 107, 112, 113, 114, 115, 116, 117, 118, 119, 120, 121, 122, 123, 124, 125, 126, 127, 128, 129, 130, 131] (by decide +kernel) (by decide +kernel)
set_option maxRecDepth 20000 in
theorem gX5_fault_X5_findFaults : GoodIn wsX5_fault (wsV RX5 140 RX5 yX5_findFaults wsX5_findFaults) := goodIn_app (goodIn_of _ (by decide +kernel)) ggX5_fault_X5_findFaults
set_option maxRecDepth 20000 in
theorem ggX5_fault_X1_cell : GoodIn wsX5_fault wsX1_cell := goodIn_r _ [111, 82, 120, 121] (by decide +kernel) (by decide +kernel)
set_option maxRecDepth 20000 in
theorem gX5_fault_X1_cell : GoodIn wsX5_fault (wsV RX5 146 RX1 yX1_cell wsX1_cell) := goodIn_app (goodIn_of _ (by decide +kernel)) ggX5_fault_X1_cell
theorem dX5_fault_0 : decode cX5_fault 0 = .ok (.aload_n 0, 1) := by decide +kernel
theorem dX5_fault_1 : decode cX5_fault 1 = .ok (.invokevirtual 140, 3) := by decide +kernel
theorem dX5_fault_4 : decode cX5_fault 4 = .ok (.iload_n 1, 1) := by decide +kernel
theorem dX5_fault_5 : decode cX5_fault 5 = .ok (.ifCond .lt 14, 3) := by decide +kernel
theorem dX5_fault_8 : decode cX5_fault 8 = .ok (.iload_n 1, 1) := by decide +kernel
theorem dX5_fault_9 : decode cX5_fault 9 = .ok (.aload_n 0, 1) := by decide +kernel
theorem dX5_fault_10 : decode cX5_fault 10 = .ok (.getfield 56, 3) := by decide +kernel
theorem dX5_fault_13 : decode cX5_fault 13 = .ok (.getfield 143, 3) := by decide +kernel
theorem dX5_fault_16 : decode cX5_fault 16 = .ok (.if_icmp .lt 5, 3) := by decide +kernel
theorem dX5_fault_19 : decode cX5_fault 19 = .ok (.iconst (-1), 1) := by decide +kernel
theorem dX5_fault_20 : decode cX5_fault 20 = .ok (.ireturn, 1) := by decide +kernel
theorem dX5_fault_21 : decode cX5_fault 21 = .ok (.iload_n 2, 1) := by decide +kernel
theorem dX5_fault_22 : decode cX5_fault 22 = .ok (.ifCond .lt 8, 3) := by decide +kernel
theorem dX5_fault_25 : decode cX5_fault 25 = .ok (.iload_n 2, 1) := by decide +kernel
theorem dX5_fault_26 : decode cX5_fault 26 = .ok (.iconst 4, 1) := by decide +kernel
theorem dX5_fault_27 : decode cX5_fault 27 = .ok (.if_icmp .lt 6, 3) := by decide +kernel
theorem dX5_fault_30 : decode cX5_fault 30 = .ok (.bipush (-2), 2) := by decide +kernel
theorem dX5_fault_32 : decode cX5_fault 32 = .ok (.ireturn, 1) := by decide +kernel
theorem dX5_fault_33 : decode cX5_fault 33 = .ok (.aload_n 0, 1) := by decide +kernel
theorem dX5_fault_34 : decode cX5_fault 34 = .ok (.getfield 56, 3) := by decide +kernel
theorem dX5_fault_37 : decode cX5_fault 37 = .ok (.iload_n 1, 1) := by decide +kernel
theorem dX5_fault_38 : decode cX5_fault 38 = .ok (.iload_n 2, 1) := by decide +kernel
theorem dX5_fault_39 : decode cX5_fault 39 = .ok (.invokevirtual 146, 3) := by decide +kernel
theorem dX5_fault_42 : decode cX5_fault 42 = .ok (.ireturn, 1) := by decide +kernel
set_option maxRecDepth 20000 in
theorem ggX5_best_X5_isItem : GoodIn wsX5_best wsX5_isItem := goodIn_r _ [9, 10, 47, 48, 49, 50, 51, 52, 53, 54] (by decide +kernel) (by decide +kernel)
set_option maxRecDepth 20000 in
theorem gX5_best_X5_isItem : GoodIn wsX5_best (wsV RX5 67 RX5 yX5_isItem wsX5_isItem) := goodIn_app (goodIn_of _ (by decide +kernel)) ggX5_best_X5_isItem
set_option maxRecDepth 20000 in
theorem ggX5_best_X0_plan : GoodIn wsX5_best wsX0_plan := goodIn_r _ [15, 16, 17, 18, 19, 20, 21, 14, 22, 23, 24, 25, 26, 27, 28, 29, 30, 31, 32, 33, 34, 35, 36, 37, 38, 39, 40, 41, 42, 43, 44, 45, 46, 60, 61, 62, 63, 64, 55, 56, 57, 58, 59] (by decide +kernel) (by decide +kernel)
set_option maxRecDepth 20000 in
theorem gX5_best_X0_plan : GoodIn wsX5_best (wsV RX5 149 RX0 yX0_plan wsX0_plan) := goodIn_app (goodIn_of _ (by decide +kernel)) ggX5_best_X0_plan
theorem dX5_best_0 : decode cX5_best 0 = .ok (.aload_n 0, 1) := by decide +kernel
theorem dX5_best_1 : decode cX5_best 1 = .ok (.iload_n 1, 1) := by decide +kernel
theorem dX5_best_2 : decode cX5_best 2 = .ok (.invokevirtual 67, 3) := by decide +kernel
theorem dX5_best_5 : decode cX5_best 5 = .ok (.ifCond .ne 7, 3) := by decide +kernel
theorem dX5_best_8 : decode cX5_best 8 = .ok (.ldc2_w 103, 3) := by decide +kernel
theorem dX5_best_11 : decode cX5_best 11 = .ok (.lreturn, 1) := by decide +kernel
theorem dX5_best_12 : decode cX5_best 12 = .ok (.aload_n 0, 1) := by decide +kernel
theorem dX5_best_13 : decode cX5_best 13 = .ok (.getfield 63, 3) := by decide +kernel
theorem dX5_best_16 : decode cX5_best 16 = .ok (.aload_n 0, 1) := by decide +kernel
theorem dX5_best_17 : decode cX5_best 17 = .ok (.getfield 26, 3) := by decide +kernel
theorem dX5_best_20 : decode cX5_best 20 = .ok (.iload_n 1, 1) := by decide +kernel
theorem dX5_best_21 : decode cX5_best 21 = .ok (.aaload, 1) := by decide +kernel
theorem dX5_best_22 : decode cX5_best 22 = .ok (.invokevirtual 149, 3) := by decide +kernel
theorem dX5_best_25 : decode cX5_best 25 = .ok (.aload_n 0, 1) := by decide +kernel
theorem dX5_best_26 : decode cX5_best 26 = .ok (.getfield 63, 3) := by decide +kernel
theorem dX5_best_29 : decode cX5_best 29 = .ok (.getfield 153, 3) := by decide +kernel
theorem dX5_best_32 : decode cX5_best 32 = .ok (.iconst 1, 1) := by decide +kernel
theorem dX5_best_33 : decode cX5_best 33 = .ok (.laload, 1) := by decide +kernel
theorem dX5_best_34 : decode cX5_best 34 = .ok (.lreturn, 1) := by decide +kernel
set_option maxRecDepth 20000 in
theorem ggX5_lot_X5_isItem : GoodIn wsX5_lot wsX5_isItem := goodIn_r _ [8, 9, 51, 52, 53, 54, 55, 56, 57, 58] (by decide +kernel) (by decide +kernel)
set_option maxRecDepth 20000 in
theorem gX5_lot_X5_isItem : GoodIn wsX5_lot (wsV RX5 67 RX5 yX5_isItem wsX5_isItem) := goodIn_app (goodIn_of _ (by decide +kernel)) ggX5_lot_X5_isItem
set_option maxRecDepth 20000 in
theorem ggX5_lot_X5_isPeriod : GoodIn wsX5_lot wsX5_isPeriod := goodIn_r _ [13, 14, 51, 52, 53, 54, 55, 56, 57, 58] (by decide +kernel) (by decide +kernel)
set_option maxRecDepth 20000 in
theorem gX5_lot_X5_isPeriod : GoodIn wsX5_lot (wsV RX5 81 RX5 yX5_isPeriod wsX5_isPeriod) := goodIn_app (goodIn_of _ (by decide +kernel)) ggX5_lot_X5_isPeriod
set_option maxRecDepth 20000 in
theorem ggX5_lot_X0_plan : GoodIn wsX5_lot wsX0_plan := goodIn_r _ [19, 20, 21, 22, 23, 24, 25, 18, 26, 27, 28, 29, 30, 31, 32, 33, 34, 35, 36, 37, 38, 39, 40, 41, 42, 43, 44, 45, 46, 47, 48, 49, 50, 64, 65, 66, 67, 68, 59, 60, 61, 62, 63] (by decide +kernel) (by decide +kernel)
set_option maxRecDepth 20000 in
theorem gX5_lot_X0_plan : GoodIn wsX5_lot (wsV RX5 149 RX0 yX0_plan wsX0_plan) := goodIn_app (goodIn_of _ (by decide +kernel)) ggX5_lot_X0_plan
theorem dX5_lot_0 : decode cX5_lot 0 = .ok (.aload_n 0, 1) := by decide +kernel
theorem dX5_lot_1 : decode cX5_lot 1 = .ok (.iload_n 1, 1) := by decide +kernel
theorem dX5_lot_2 : decode cX5_lot 2 = .ok (.invokevirtual 67, 3) := by decide +kernel
theorem dX5_lot_5 : decode cX5_lot 5 = .ok (.ifCond .eq 11, 3) := by decide +kernel
theorem dX5_lot_8 : decode cX5_lot 8 = .ok (.aload_n 0, 1) := by decide +kernel
theorem dX5_lot_9 : decode cX5_lot 9 = .ok (.iload_n 2, 1) := by decide +kernel
theorem dX5_lot_10 : decode cX5_lot 10 = .ok (.invokevirtual 81, 3) := by decide +kernel
theorem dX5_lot_13 : decode cX5_lot 13 = .ok (.ifCond .ne 5, 3) := by decide +kernel
theorem dX5_lot_16 : decode cX5_lot 16 = .ok (.iconst (-1), 1) := by decide +kernel
theorem dX5_lot_17 : decode cX5_lot 17 = .ok (.ireturn, 1) := by decide +kernel
theorem dX5_lot_18 : decode cX5_lot 18 = .ok (.aload_n 0, 1) := by decide +kernel
theorem dX5_lot_19 : decode cX5_lot 19 = .ok (.getfield 63, 3) := by decide +kernel
theorem dX5_lot_22 : decode cX5_lot 22 = .ok (.aload_n 0, 1) := by decide +kernel
theorem dX5_lot_23 : decode cX5_lot 23 = .ok (.getfield 26, 3) := by decide +kernel
theorem dX5_lot_26 : decode cX5_lot 26 = .ok (.iload_n 1, 1) := by decide +kernel
theorem dX5_lot_27 : decode cX5_lot 27 = .ok (.aaload, 1) := by decide +kernel
theorem dX5_lot_28 : decode cX5_lot 28 = .ok (.invokevirtual 149, 3) := by decide +kernel
theorem dX5_lot_31 : decode cX5_lot 31 = .ok (.aload_n 0, 1) := by decide +kernel
theorem dX5_lot_32 : decode cX5_lot 32 = .ok (.getfield 63, 3) := by decide +kernel
theorem dX5_lot_35 : decode cX5_lot 35 = .ok (.getfield 157, 3) := by decide +kernel
theorem dX5_lot_38 : decode cX5_lot 38 = .ok (.iload_n 2, 1) := by decide +kernel
theorem dX5_lot_39 : decode cX5_lot 39 = .ok (.iaload, 1) := by decide +kernel
theorem dX5_lot_40 : decode cX5_lot 40 = .ok (.ireturn, 1) := by decide +kernel
set_option maxRecDepth 20000 in
theorem ggX5_from_X5_isItem : GoodIn wsX5_from wsX5_isItem := goodIn_r _ [10, 11, 48, 49, 50, 51, 52, 53, 54, 55] (by decide +kernel) (by decide +kernel)
set_option maxRecDepth 20000 in
theorem gX5_from_X5_isItem : GoodIn wsX5_from (wsV RX5 67 RX5 yX5_isItem wsX5_isItem) := goodIn_app (goodIn_of _ (by decide +kernel)) ggX5_from_X5_isItem
set_option maxRecDepth 20000 in
theorem ggX5_from_X0_plan : GoodIn wsX5_from wsX0_plan := goodIn_r _ [16, 17, 18, 19, 20, 21, 22, 15, 23, 24, 25, 26, 27, 28, 29, 30, 31, 32, 33, 34, 35, 36, 37, 38, 39, 40, 41, 42, 43, 44, 45, 46, 47, 61, 62, 63, 64, 65, 56, 57, 58, 59, 60] (by decide +kernel) (by decide +kernel)
set_option maxRecDepth 20000 in
theorem gX5_from_X0_plan : GoodIn wsX5_from (wsV RX5 149 RX0 yX0_plan wsX0_plan) := goodIn_app (goodIn_of _ (by decide +kernel)) ggX5_from_X0_plan
theorem dX5_from_0 : decode cX5_from 0 = .ok (.aload_n 0, 1) := by decide +kernel
theorem dX5_from_1 : decode cX5_from 1 = .ok (.iload_n 1, 1) := by decide +kernel
theorem dX5_from_2 : decode cX5_from 2 = .ok (.invokevirtual 67, 3) := by decide +kernel
theorem dX5_from_5 : decode cX5_from 5 = .ok (.ifCond .eq 18, 3) := by decide +kernel
theorem dX5_from_8 : decode cX5_from 8 = .ok (.iload_n 2, 1) := by decide +kernel
theorem dX5_from_9 : decode cX5_from 9 = .ok (.iconst 1, 1) := by decide +kernel
theorem dX5_from_10 : decode cX5_from 10 = .ok (.if_icmp .lt 13, 3) := by decide +kernel
theorem dX5_from_13 : decode cX5_from 13 = .ok (.iload_n 2, 1) := by decide +kernel
theorem dX5_from_14 : decode cX5_from 14 = .ok (.aload_n 0, 1) := by decide +kernel
theorem dX5_from_15 : decode cX5_from 15 = .ok (.getfield 20, 3) := by decide +kernel
theorem dX5_from_18 : decode cX5_from 18 = .ok (.iconst 1, 1) := by decide +kernel
theorem dX5_from_19 : decode cX5_from 19 = .ok (.iadd, 1) := by decide +kernel
theorem dX5_from_20 : decode cX5_from 20 = .ok (.if_icmp .le 7, 3) := by decide +kernel
theorem dX5_from_23 : decode cX5_from 23 = .ok (.ldc2_w 103, 3) := by decide +kernel
theorem dX5_from_26 : decode cX5_from 26 = .ok (.lreturn, 1) := by decide +kernel
theorem dX5_from_27 : decode cX5_from 27 = .ok (.aload_n 0, 1) := by decide +kernel
theorem dX5_from_28 : decode cX5_from 28 = .ok (.getfield 63, 3) := by decide +kernel
theorem dX5_from_31 : decode cX5_from 31 = .ok (.aload_n 0, 1) := by decide +kernel
theorem dX5_from_32 : decode cX5_from 32 = .ok (.getfield 26, 3) := by decide +kernel
theorem dX5_from_35 : decode cX5_from 35 = .ok (.iload_n 1, 1) := by decide +kernel
theorem dX5_from_36 : decode cX5_from 36 = .ok (.aaload, 1) := by decide +kernel
theorem dX5_from_37 : decode cX5_from 37 = .ok (.invokevirtual 149, 3) := by decide +kernel
theorem dX5_from_40 : decode cX5_from 40 = .ok (.aload_n 0, 1) := by decide +kernel
theorem dX5_from_41 : decode cX5_from 41 = .ok (.getfield 63, 3) := by decide +kernel
theorem dX5_from_44 : decode cX5_from 44 = .ok (.getfield 153, 3) := by decide +kernel
theorem dX5_from_47 : decode cX5_from 47 = .ok (.iload_n 2, 1) := by decide +kernel
theorem dX5_from_48 : decode cX5_from 48 = .ok (.laload, 1) := by decide +kernel
theorem dX5_from_49 : decode cX5_from 49 = .ok (.lreturn, 1) := by decide +kernel
set_option maxRecDepth 20000 in
theorem ggX5_share_X5_isPrice : GoodIn wsX5_share wsX5_isPrice := goodIn_r _ [8] (by decide +kernel) (by decide +kernel)
set_option maxRecDepth 20000 in
theorem gX5_share_X5_isPrice : GoodIn wsX5_share (va_wsS RX5 134 yX5_isPrice wsX5_isPrice) := goodIn_app (goodIn_of _ (by decide +kernel)) ggX5_share_X5_isPrice
set_option maxRecDepth 20000 in
theorem ggX5_share_X5_priceOf : GoodIn wsX5_share wsX5_priceOf := goodIn_r _ [12, 13, 14, 15, 7, 16, 17, 18, 19, 20, 21, 22, 23, 24, 25, 26, 27, 28, 29, 30, 31, 32, 33, 34, 35, 36, 37, 38, 39, 40, 41, 42, 43, 44, 45, 46, 47, 48, 49, 50, 51, 52, 53, 54, 55, 56, 57, 58, 59, 60, 61, 62, 63, 64, 65, 66, 67, 68, 69, 70, 71, 72, 73, 74, 75, 76, 77, 78, 79, 80, 81, 82, 83, 84, 85, 86, 87, 88, 89, 90, 91, 92, 93, 94, 95, 96, 97, 98, 99, 100, 101, 102, 103, 104, 105, 106, 107, 108, 109, 110, 111, 112, 113, 114, 115, 116, 117, 118, 119, 120, 121, 122, 123, 124] (by decide +kernel) (by decide +kernel)
set_option maxRecDepth 20000 in
theorem gX5_share_X5_priceOf : GoodIn wsX5_share (wsV RX5 137 RX5 yX5_priceOf wsX5_priceOf) := goodIn_app (goodIn_of _ (by decide +kernel)) ggX5_share_X5_priceOf
theorem dX5_share_0 : decode cX5_share 0 = .ok (.iload_n 1, 1) := by decide +kernel
theorem dX5_share_1 : decode cX5_share 1 = .ok (.invokestatic 134, 3) := by decide +kernel
theorem dX5_share_4 : decode cX5_share 4 = .ok (.ifCond .eq 10, 3) := by decide +kernel
theorem dX5_share_7 : decode cX5_share 7 = .ok (.iload_n 2, 1) := by decide +kernel
theorem dX5_share_8 : decode cX5_share 8 = .ok (.invokestatic 134, 3) := by decide +kernel
theorem dX5_share_11 : decode cX5_share 11 = .ok (.ifCond .ne 7, 3) := by decide +kernel
theorem dX5_share_14 : decode cX5_share 14 = .ok (.ldc2_w 103, 3) := by decide +kernel
theorem dX5_share_17 : decode cX5_share 17 = .ok (.lreturn, 1) := by decide +kernel
theorem dX5_share_18 : decode cX5_share 18 = .ok (.aload_n 0, 1) := by decide +kernel
theorem dX5_share_19 : decode cX5_share 19 = .ok (.iload_n 2, 1) := by decide +kernel
theorem dX5_share_20 : decode cX5_share 20 = .ok (.invokevirtual 137, 3) := by decide +kernel
theorem dX5_share_23 : decode cX5_share 23 = .ok (.lstore_n 3, 1) := by decide +kernel
theorem dX5_share_24 : decode cX5_share 24 = .ok (.lload_n 3, 1) := by decide +kernel
theorem dX5_share_25 : decode cX5_share 25 = .ok (.lconst 0, 1) := by decide +kernel
theorem dX5_share_26 : decode cX5_share 26 = .ok (.lcmp, 1) := by decide +kernel
theorem dX5_share_27 : decode cX5_share 27 = .ok (.ifCond .ne 13, 3) := by decide +kernel
theorem dX5_share_30 : decode cX5_share 30 = .ok (.new 160, 3) := by decide +kernel
theorem dX5_share_33 : decode cX5_share 33 = .ok (.dup, 1) := by decide +kernel
theorem dX5_share_34 : decode cX5_share 34 = .ok (.ldc 162, 2) := by decide +kernel
theorem dX5_share_36 : decode cX5_share 36 = .ok (.invokespecial 164, 3) := by decide +kernel
theorem dX5_share_39 : decode cX5_share 39 = .ok (.athrow, 1) := by decide +kernel
theorem dX5_share_40 : decode cX5_share 40 = .ok (.ldc2_w 167, 3) := by decide +kernel
theorem dX5_share_43 : decode cX5_share 43 = .ok (.aload_n 0, 1) := by decide +kernel
theorem dX5_share_44 : decode cX5_share 44 = .ok (.iload_n 1, 1) := by decide +kernel
theorem dX5_share_45 : decode cX5_share 45 = .ok (.invokevirtual 137, 3) := by decide +kernel
theorem dX5_share_48 : decode cX5_share 48 = .ok (.lmul, 1) := by decide +kernel
theorem dX5_share_49 : decode cX5_share 49 = .ok (.lload_n 3, 1) := by decide +kernel
theorem dX5_share_50 : decode cX5_share 50 = .ok (.ldiv, 1) := by decide +kernel
theorem dX5_share_51 : decode cX5_share 51 = .ok (.lreturn, 1) := by decide +kernel
theorem dX5_isItem_0 : decode cX5_isItem 0 = .ok (.iload_n 1, 1) := by decide +kernel
theorem dX5_isItem_1 : decode cX5_isItem 1 = .ok (.ifCond .lt 15, 3) := by decide +kernel
theorem dX5_isItem_4 : decode cX5_isItem 4 = .ok (.iload_n 1, 1) := by decide +kernel
theorem dX5_isItem_5 : decode cX5_isItem 5 = .ok (.aload_n 0, 1) := by decide +kernel
theorem dX5_isItem_6 : decode cX5_isItem 6 = .ok (.getfield 33, 3) := by decide +kernel
theorem dX5_isItem_9 : decode cX5_isItem 9 = .ok (.if_icmp .ge 7, 3) := by decide +kernel
theorem dX5_isItem_12 : decode cX5_isItem 12 = .ok (.iconst 1, 1) := by decide +kernel
theorem dX5_isItem_13 : decode cX5_isItem 13 = .ok (.goto 4, 3) := by decide +kernel
theorem dX5_isItem_16 : decode cX5_isItem 16 = .ok (.iconst 0, 1) := by decide +kernel
theorem dX5_isItem_17 : decode cX5_isItem 17 = .ok (.ireturn, 1) := by decide +kernel
theorem dX5_isPeriod_0 : decode cX5_isPeriod 0 = .ok (.iload_n 1, 1) := by decide +kernel
theorem dX5_isPeriod_1 : decode cX5_isPeriod 1 = .ok (.iconst 1, 1) := by decide +kernel
theorem dX5_isPeriod_2 : decode cX5_isPeriod 2 = .ok (.if_icmp .lt 15, 3) := by decide +kernel
theorem dX5_isPeriod_5 : decode cX5_isPeriod 5 = .ok (.iload_n 1, 1) := by decide +kernel
theorem dX5_isPeriod_6 : decode cX5_isPeriod 6 = .ok (.aload_n 0, 1) := by decide +kernel
theorem dX5_isPeriod_7 : decode cX5_isPeriod 7 = .ok (.getfield 20, 3) := by decide +kernel
theorem dX5_isPeriod_10 : decode cX5_isPeriod 10 = .ok (.if_icmp .gt 7, 3) := by decide +kernel
theorem dX5_isPeriod_13 : decode cX5_isPeriod 13 = .ok (.iconst 1, 1) := by decide +kernel
theorem dX5_isPeriod_14 : decode cX5_isPeriod 14 = .ok (.goto 4, 3) := by decide +kernel
theorem dX5_isPeriod_17 : decode cX5_isPeriod 17 = .ok (.iconst 0, 1) := by decide +kernel
theorem dX5_isPeriod_18 : decode cX5_isPeriod 18 = .ok (.ireturn, 1) := by decide +kernel
set_option maxRecDepth 20000 in
theorem ggX5_isPeriodOrBeginning_X5_isPeriod : GoodIn wsX5_isPeriodOrBeginning wsX5_isPeriod := goodIn_r _ [5, 6, 7, 8, 9, 10, 11, 12, 13, 14] (by decide +kernel) (by decide +kernel)
set_option maxRecDepth 20000 in
theorem gX5_isPeriodOrBeginning_X5_isPeriod : GoodIn wsX5_isPeriodOrBeginning (wsV RX5 81 RX5 yX5_isPeriod wsX5_isPeriod) := goodIn_app (goodIn_of _ (by decide +kernel)) ggX5_isPeriodOrBeginning_X5_isPeriod
theorem dX5_isPeriodOrBeginning_0 : decode cX5_isPeriodOrBeginning 0 = .ok (.iload_n 1, 1) := by decide +kernel
theorem dX5_isPeriodOrBeginning_1 : decode cX5_isPeriodOrBeginning 1 = .ok (.ifCond .eq 11, 3) := by decide +kernel
theorem dX5_isPeriodOrBeginning_4 : decode cX5_isPeriodOrBeginning 4 = .ok (.aload_n 0, 1) := by decide +kernel
theorem dX5_isPeriodOrBeginning_5 : decode cX5_isPeriodOrBeginning 5 = .ok (.iload_n 1, 1) := by decide +kernel
theorem dX5_isPeriodOrBeginning_6 : decode cX5_isPeriodOrBeginning 6 = .ok (.invokevirtual 81, 3) := by decide +kernel
theorem dX5_isPeriodOrBeginning_9 : decode cX5_isPeriodOrBeginning 9 = .ok (.ifCond .eq 7, 3) := by decide +kernel
theorem dX5_isPeriodOrBeginning_12 : decode cX5_isPeriodOrBeginning 12 = .ok (.iconst 1, 1) := by decide +kernel
theorem dX5_isPeriodOrBeginning_13 : decode cX5_isPeriodOrBeginning 13 = .ok (.goto 4, 3) := by decide +kernel
theorem dX5_isPeriodOrBeginning_16 : decode cX5_isPeriodOrBeginning 16 = .ok (.iconst 0, 1) := by decide +kernel
theorem dX5_isPeriodOrBeginning_17 : decode cX5_isPeriodOrBeginning 17 = .ok (.ireturn, 1) := by decide +kernel
theorem dX5_isPrice_0 : decode cX5_isPrice 0 = .ok (.iload_n 0, 1) := by decide +kernel
theorem dX5_isPrice_1 : decode cX5_isPrice 1 = .ok (.ifCond .lt 12, 3) := by decide +kernel
theorem dX5_isPrice_4 : decode cX5_isPrice 4 = .ok (.iload_n 0, 1) := by decide +kernel
theorem dX5_isPrice_5 : decode cX5_isPrice 5 = .ok (.iconst 3, 1) := by decide +kernel
theorem dX5_isPrice_6 : decode cX5_isPrice 6 = .ok (.if_icmp .gt 7, 3) := by decide +kernel
theorem dX5_isPrice_9 : decode cX5_isPrice 9 = .ok (.iconst 1, 1) := by decide +kernel
theorem dX5_isPrice_10 : decode cX5_isPrice 10 = .ok (.goto 4, 3) := by decide +kernel
theorem dX5_isPrice_13 : decode cX5_isPrice 13 = .ok (.iconst 0, 1) := by decide +kernel
theorem dX5_isPrice_14 : decode cX5_isPrice 14 = .ok (.ireturn, 1) := by decide +kernel
theorem dX5_replace_0 : decode cX5_replace 0 = .ok (.iload_n 2, 1) := by decide +kernel
theorem dX5_replace_1 : decode cX5_replace 1 = .ok (.ifCond .lt 8, 3) := by decide +kernel
theorem dX5_replace_4 : decode cX5_replace 4 = .ok (.iload_n 2, 1) := by decide +kernel
theorem dX5_replace_5 : decode cX5_replace 5 = .ok (.iload_n 3, 1) := by decide +kernel
theorem dX5_replace_6 : decode cX5_replace 6 = .ok (.if_icmp .le 6, 3) := by decide +kernel
theorem dX5_replace_9 : decode cX5_replace 9 = .ok (.bipush (-2), 2) := by decide +kernel
theorem dX5_replace_11 : decode cX5_replace 11 = .ok (.ireturn, 1) := by decide +kernel
theorem dX5_replace_12 : decode cX5_replace 12 = .ok (.aload_n 0, 1) := by decide +kernel
theorem dX5_replace_13 : decode cX5_replace 13 = .ok (.iload_n 1, 1) := by decide +kernel
theorem dX5_replace_14 : decode cX5_replace 14 = .ok (.iaload, 1) := by decide +kernel
theorem dX5_replace_15 : decode cX5_replace 15 = .ok (.istore 4, 2) := by decide +kernel
theorem dX5_replace_17 : decode cX5_replace 17 = .ok (.aload_n 0, 1) := by decide +kernel
theorem dX5_replace_18 : decode cX5_replace 18 = .ok (.iload_n 1, 1) := by decide +kernel
theorem dX5_replace_19 : decode cX5_replace 19 = .ok (.iload_n 2, 1) := by decide +kernel
theorem dX5_replace_20 : decode cX5_replace 20 = .ok (.iastore, 1) := by decide +kernel
theorem dX5_replace_21 : decode cX5_replace 21 = .ok (.iload 4, 2) := by decide +kernel
theorem dX5_replace_23 : decode cX5_replace 23 = .ok (.ireturn, 1) := by decide +kernel
set_option maxRecDepth 20000 in
theorem ggX5_goesInto_X2_wholes : GoodIn wsX5_goesInto wsX2_wholes := goodIn_r _ [7, 8, 17, 18, 19, 20, 21] (by decide +kernel) (by decide +kernel)
set_option maxRecDepth 20000 in
theorem gX5_goesInto_X2_wholes : GoodIn wsX5_goesInto (wsV RX5 169 RX2 yX2_wholes wsX2_wholes) := goodIn_app (goodIn_of _ (by decide +kernel)) ggX5_goesInto_X2_wholes
theorem dX5_goesInto_0 : decode cX5_goesInto 0 = .ok (.iconst 1, 1) := by decide +kernel
theorem dX5_goesInto_1 : decode cX5_goesInto 1 = .ok (.iload_n 1, 1) := by decide +kernel
theorem dX5_goesInto_2 : decode cX5_goesInto 2 = .ok (.ishl, 1) := by decide +kernel
theorem dX5_goesInto_3 : decode cX5_goesInto 3 = .ok (.istore_n 3, 1) := by decide +kernel
theorem dX5_goesInto_4 : decode cX5_goesInto 4 = .ok (.iconst 0, 1) := by decide +kernel
theorem dX5_goesInto_5 : decode cX5_goesInto 5 = .ok (.istore 4, 2) := by decide +kernel
theorem dX5_goesInto_7 : decode cX5_goesInto 7 = .ok (.iload 4, 2) := by decide +kernel
theorem dX5_goesInto_9 : decode cX5_goesInto 9 = .ok (.aload_n 0, 1) := by decide +kernel
theorem dX5_goesInto_10 : decode cX5_goesInto 10 = .ok (.getfield 33, 3) := by decide +kernel
theorem dX5_goesInto_13 : decode cX5_goesInto 13 = .ok (.if_icmp .ge 49, 3) := by decide +kernel
theorem dX5_goesInto_16 : decode cX5_goesInto 16 = .ok (.iconst 0, 1) := by decide +kernel
theorem dX5_goesInto_17 : decode cX5_goesInto 17 = .ok (.istore 5, 2) := by decide +kernel
theorem dX5_goesInto_19 : decode cX5_goesInto 19 = .ok (.iload 5, 2) := by decide +kernel
theorem dX5_goesInto_21 : decode cX5_goesInto 21 = .ok (.aload_n 0, 1) := by decide +kernel
theorem dX5_goesInto_22 : decode cX5_goesInto 22 = .ok (.getfield 33, 3) := by decide +kernel
theorem dX5_goesInto_25 : decode cX5_goesInto 25 = .ok (.if_icmp .ge 31, 3) := by decide +kernel
theorem dX5_goesInto_28 : decode cX5_goesInto 28 = .ok (.iload_n 3, 1) := by decide +kernel
theorem dX5_goesInto_29 : decode cX5_goesInto 29 = .ok (.iconst 1, 1) := by decide +kernel
theorem dX5_goesInto_30 : decode cX5_goesInto 30 = .ok (.iload 5, 2) := by decide +kernel
theorem dX5_goesInto_32 : decode cX5_goesInto 32 = .ok (.ishl, 1) := by decide +kernel
theorem dX5_goesInto_33 : decode cX5_goesInto 33 = .ok (.iand, 1) := by decide +kernel
theorem dX5_goesInto_34 : decode cX5_goesInto 34 = .ok (.ifCond .eq 16, 3) := by decide +kernel
theorem dX5_goesInto_37 : decode cX5_goesInto 37 = .ok (.iload_n 3, 1) := by decide +kernel
theorem dX5_goesInto_38 : decode cX5_goesInto 38 = .ok (.aload_n 0, 1) := by decide +kernel
theorem dX5_goesInto_39 : decode cX5_goesInto 39 = .ok (.getfield 26, 3) := by decide +kernel
theorem dX5_goesInto_42 : decode cX5_goesInto 42 = .ok (.iload 5, 2) := by decide +kernel
theorem dX5_goesInto_44 : decode cX5_goesInto 44 = .ok (.aaload, 1) := by decide +kernel
theorem dX5_goesInto_45 : decode cX5_goesInto 45 = .ok (.invokevirtual 169, 3) := by decide +kernel
theorem dX5_goesInto_48 : decode cX5_goesInto 48 = .ok (.ior, 1) := by decide +kernel
theorem dX5_goesInto_49 : decode cX5_goesInto 49 = .ok (.istore_n 3, 1) := by decide +kernel
theorem dX5_goesInto_50 : decode cX5_goesInto 50 = .ok (.iinc 5 1, 3) := by decide +kernel
theorem dX5_goesInto_53 : decode cX5_goesInto 53 = .ok (.goto (-34), 3) := by decide +kernel
theorem dX5_goesInto_56 : decode cX5_goesInto 56 = .ok (.iinc 4 1, 3) := by decide +kernel
theorem dX5_goesInto_59 : decode cX5_goesInto 59 = .ok (.goto (-52), 3) := by decide +kernel
theorem dX5_goesInto_62 : decode cX5_goesInto 62 = .ok (.iload_n 3, 1) := by decide +kernel
theorem dX5_goesInto_63 : decode cX5_goesInto 63 = .ok (.iconst 1, 1) := by decide +kernel
theorem dX5_goesInto_64 : decode cX5_goesInto 64 = .ok (.iload_n 2, 1) := by decide +kernel
theorem dX5_goesInto_65 : decode cX5_goesInto 65 = .ok (.ishl, 1) := by decide +kernel
theorem dX5_goesInto_66 : decode cX5_goesInto 66 = .ok (.iand, 1) := by decide +kernel
theorem dX5_goesInto_67 : decode cX5_goesInto 67 = .ok (.ifCond .eq 7, 3) := by decide +kernel
theorem dX5_goesInto_70 : decode cX5_goesInto 70 = .ok (.iconst 1, 1) := by decide +kernel
theorem dX5_goesInto_71 : decode cX5_goesInto 71 = .ok (.goto 4, 3) := by decide +kernel
theorem dX5_goesInto_74 : decode cX5_goesInto 74 = .ok (.iconst 0, 1) := by decide +kernel
theorem dX5_goesInto_75 : decode cX5_goesInto 75 = .ok (.ireturn, 1) := by decide +kernel
theorem dX5_grossOf_0 : decode cX5_grossOf 0 = .ok (.aload_n 0, 1) := by decide +kernel
theorem dX5_grossOf_1 : decode cX5_grossOf 1 = .ok (.getfield 26, 3) := by decide +kernel
theorem dX5_grossOf_4 : decode cX5_grossOf 4 = .ok (.iload_n 1, 1) := by decide +kernel
theorem dX5_grossOf_5 : decode cX5_grossOf 5 = .ok (.aaload, 1) := by decide +kernel
theorem dX5_grossOf_6 : decode cX5_grossOf 6 = .ok (.getfield 84, 3) := by decide +kernel
theorem dX5_grossOf_9 : decode cX5_grossOf 9 = .ok (.iload_n 2, 1) := by decide +kernel
theorem dX5_grossOf_10 : decode cX5_grossOf 10 = .ok (.iaload, 1) := by decide +kernel
theorem dX5_grossOf_11 : decode cX5_grossOf 11 = .ok (.istore_n 3, 1) := by decide +kernel
theorem dX5_grossOf_12 : decode cX5_grossOf 12 = .ok (.iconst 0, 1) := by decide +kernel
theorem dX5_grossOf_13 : decode cX5_grossOf 13 = .ok (.istore 4, 2) := by decide +kernel
theorem dX5_grossOf_15 : decode cX5_grossOf 15 = .ok (.iload 4, 2) := by decide +kernel
theorem dX5_grossOf_17 : decode cX5_grossOf 17 = .ok (.aload_n 0, 1) := by decide +kernel
theorem dX5_grossOf_18 : decode cX5_grossOf 18 = .ok (.getfield 33, 3) := by decide +kernel
theorem dX5_grossOf_21 : decode cX5_grossOf 21 = .ok (.if_icmp .ge 37, 3) := by decide +kernel
theorem dX5_grossOf_24 : decode cX5_grossOf 24 = .ok (.iload_n 3, 1) := by decide +kernel
theorem dX5_grossOf_25 : decode cX5_grossOf 25 = .ok (.aload_n 0, 1) := by decide +kernel
theorem dX5_grossOf_26 : decode cX5_grossOf 26 = .ok (.getfield 26, 3) := by decide +kernel
theorem dX5_grossOf_29 : decode cX5_grossOf 29 = .ok (.iload_n 1, 1) := by decide +kernel
theorem dX5_grossOf_30 : decode cX5_grossOf 30 = .ok (.aaload, 1) := by decide +kernel
theorem dX5_grossOf_31 : decode cX5_grossOf 31 = .ok (.getfield 91, 3) := by decide +kernel
theorem dX5_grossOf_34 : decode cX5_grossOf 34 = .ok (.iload 4, 2) := by decide +kernel
theorem dX5_grossOf_36 : decode cX5_grossOf 36 = .ok (.iaload, 1) := by decide +kernel
theorem dX5_grossOf_37 : decode cX5_grossOf 37 = .ok (.aload_n 0, 1) := by decide +kernel
theorem dX5_grossOf_38 : decode cX5_grossOf 38 = .ok (.getfield 26, 3) := by decide +kernel
theorem dX5_grossOf_41 : decode cX5_grossOf 41 = .ok (.iload 4, 2) := by decide +kernel
theorem dX5_grossOf_43 : decode cX5_grossOf 43 = .ok (.aaload, 1) := by decide +kernel
theorem dX5_grossOf_44 : decode cX5_grossOf 44 = .ok (.getfield 94, 3) := by decide +kernel
theorem dX5_grossOf_47 : decode cX5_grossOf 47 = .ok (.iload_n 2, 1) := by decide +kernel
theorem dX5_grossOf_48 : decode cX5_grossOf 48 = .ok (.iaload, 1) := by decide +kernel
theorem dX5_grossOf_49 : decode cX5_grossOf 49 = .ok (.imul, 1) := by decide +kernel
theorem dX5_grossOf_50 : decode cX5_grossOf 50 = .ok (.iadd, 1) := by decide +kernel
theorem dX5_grossOf_51 : decode cX5_grossOf 51 = .ok (.istore_n 3, 1) := by decide +kernel
theorem dX5_grossOf_52 : decode cX5_grossOf 52 = .ok (.iinc 4 1, 3) := by decide +kernel
theorem dX5_grossOf_55 : decode cX5_grossOf 55 = .ok (.goto (-40), 3) := by decide +kernel
theorem dX5_grossOf_58 : decode cX5_grossOf 58 = .ok (.iload_n 3, 1) := by decide +kernel
theorem dX5_grossOf_59 : decode cX5_grossOf 59 = .ok (.ireturn, 1) := by decide +kernel
set_option maxRecDepth 20000 in
theorem ggX5_runItem_X4_begin : GoodIn wsX5_runItem wsX4_begin := goodIn_r _ [9, 10, 11, 65, 66, 67] (by decide +kernel) (by decide +kernel)
set_option maxRecDepth 20000 in
theorem gX5_runItem_X4_begin : GoodIn wsX5_runItem (wsV RX5 173 RX4 yX4_begin wsX4_begin) := goodIn_app (goodIn_of _ (by decide +kernel)) ggX5_runItem_X4_begin
set_option maxRecDepth 20000 in
theorem ggX5_runItem_X2_coming : GoodIn wsX5_runItem wsX2_coming := goodIn_r _ [16, 17, 18, 60, 61, 62, 63, 64] (by decide +kernel) (by decide +kernel)
set_option maxRecDepth 20000 in
theorem gX5_runItem_X2_coming : GoodIn wsX5_runItem (wsV RX5 176 RX2 yX2_coming wsX2_coming) := goodIn_app (goodIn_of _ (by decide +kernel)) ggX5_runItem_X2_coming
set_option maxRecDepth 20000 in
theorem ggX5_runItem_X5_grossOf : GoodIn wsX5_runItem wsX5_grossOf := goodIn_r _ [23, 1, 24, 25, 26, 27, 52, 53, 54, 55, 56, 57, 58, 59, 60, 61, 62, 63, 64] (by decide +kernel) (by decide +kernel)
set_option maxRecDepth 20000 in
theorem gX5_runItem_X5_grossOf : GoodIn wsX5_runItem (wsV RX5 97 RX5 yX5_grossOf wsX5_grossOf) := goodIn_app (goodIn_of _ (by decide +kernel)) ggX5_runItem_X5_grossOf
set_option maxRecDepth 20000 in
theorem ggX5_runItem_X4_pass : GoodIn wsX5_runItem wsX4_pass := goodIn_r _ [31, 11, 32, 10, 33, 34, 35, 8, 36, 37, 38, 39, 40, 41, 42, 43, 44, 45, 46, 47, 48, 49, 50, 51, 65, 66, 67] (by decide +kernel) (by decide +kernel)
set_option maxRecDepth 20000 in
theorem gX5_runItem_X4_pass : GoodIn wsX5_runItem (wsV RX5 180 RX4 yX4_pass wsX4_pass) := goodIn_app (goodIn_of _ (by decide +kernel)) ggX5_runItem_X4_pass
theorem dX5_runItem_0 : decode cX5_runItem 0 = .ok (.aload_n 0, 1) := by decide +kernel
theorem dX5_runItem_1 : decode cX5_runItem 1 = .ok (.getfield 26, 3) := by decide +kernel
theorem dX5_runItem_4 : decode cX5_runItem 4 = .ok (.iload_n 1, 1) := by decide +kernel
theorem dX5_runItem_5 : decode cX5_runItem 5 = .ok (.aaload, 1) := by decide +kernel
theorem dX5_runItem_6 : decode cX5_runItem 6 = .ok (.astore_n 2, 1) := by decide +kernel
theorem dX5_runItem_7 : decode cX5_runItem 7 = .ok (.aload_n 2, 1) := by decide +kernel
theorem dX5_runItem_8 : decode cX5_runItem 8 = .ok (.getfield 108, 3) := by decide +kernel
theorem dX5_runItem_11 : decode cX5_runItem 11 = .ok (.aload_n 2, 1) := by decide +kernel
theorem dX5_runItem_12 : decode cX5_runItem 12 = .ok (.getfield 71, 3) := by decide +kernel
theorem dX5_runItem_15 : decode cX5_runItem 15 = .ok (.iconst 4, 1) := by decide +kernel
theorem dX5_runItem_16 : decode cX5_runItem 16 = .ok (.iaload, 1) := by decide +kernel
theorem dX5_runItem_17 : decode cX5_runItem 17 = .ok (.invokevirtual 173, 3) := by decide +kernel
theorem dX5_runItem_20 : decode cX5_runItem 20 = .ok (.iconst 1, 1) := by decide +kernel
theorem dX5_runItem_21 : decode cX5_runItem 21 = .ok (.istore_n 3, 1) := by decide +kernel
theorem dX5_runItem_22 : decode cX5_runItem 22 = .ok (.iload_n 3, 1) := by decide +kernel
theorem dX5_runItem_23 : decode cX5_runItem 23 = .ok (.aload_n 0, 1) := by decide +kernel
theorem dX5_runItem_24 : decode cX5_runItem 24 = .ok (.getfield 20, 3) := by decide +kernel
theorem dX5_runItem_27 : decode cX5_runItem 27 = .ok (.if_icmp .gt 34, 3) := by decide +kernel
theorem dX5_runItem_30 : decode cX5_runItem 30 = .ok (.aload_n 2, 1) := by decide +kernel
theorem dX5_runItem_31 : decode cX5_runItem 31 = .ok (.getfield 108, 3) := by decide +kernel
theorem dX5_runItem_34 : decode cX5_runItem 34 = .ok (.iload_n 3, 1) := by decide +kernel
theorem dX5_runItem_35 : decode cX5_runItem 35 = .ok (.aload_n 2, 1) := by decide +kernel
theorem dX5_runItem_36 : decode cX5_runItem 36 = .ok (.iload_n 3, 1) := by decide +kernel
theorem dX5_runItem_37 : decode cX5_runItem 37 = .ok (.invokevirtual 176, 3) := by decide +kernel
theorem dX5_runItem_40 : decode cX5_runItem 40 = .ok (.aload_n 0, 1) := by decide +kernel
theorem dX5_runItem_41 : decode cX5_runItem 41 = .ok (.iload_n 1, 1) := by decide +kernel
theorem dX5_runItem_42 : decode cX5_runItem 42 = .ok (.iload_n 3, 1) := by decide +kernel
theorem dX5_runItem_43 : decode cX5_runItem 43 = .ok (.invokevirtual 97, 3) := by decide +kernel
theorem dX5_runItem_46 : decode cX5_runItem 46 = .ok (.aload_n 2, 1) := by decide +kernel
theorem dX5_runItem_47 : decode cX5_runItem 47 = .ok (.getfield 71, 3) := by decide +kernel
theorem dX5_runItem_50 : decode cX5_runItem 50 = .ok (.iconst 3, 1) := by decide +kernel
theorem dX5_runItem_51 : decode cX5_runItem 51 = .ok (.iaload, 1) := by decide +kernel
theorem dX5_runItem_52 : decode cX5_runItem 52 = .ok (.invokevirtual 180, 3) := by decide +kernel
theorem dX5_runItem_55 : decode cX5_runItem 55 = .ok (.iinc 3 1, 3) := by decide +kernel
theorem dX5_runItem_58 : decode cX5_runItem 58 = .ok (.goto (-36), 3) := by decide +kernel
theorem dX5_runItem_61 : decode cX5_runItem 61 = .ok (.return_, 1) := by decide +kernel
set_option maxRecDepth 20000 in
theorem ggX5_timeOf_X3_setsUp : GoodIn wsX5_timeOf wsX3_setsUp := goodIn_r _ [10, 11, 25, 26] (by decide +kernel) (by decide +kernel)
set_option maxRecDepth 20000 in
theorem gX5_timeOf_X3_setsUp : GoodIn wsX5_timeOf (wsV RX5 124 RX3 yX3_setsUp wsX3_setsUp) := goodIn_app (goodIn_of _ (by decide +kernel)) ggX5_timeOf_X3_setsUp
theorem dX5_timeOf_0 : decode cX5_timeOf 0 = .ok (.lconst 0, 1) := by decide +kernel
theorem dX5_timeOf_1 : decode cX5_timeOf 1 = .ok (.lstore_n 2, 1) := by decide +kernel
theorem dX5_timeOf_2 : decode cX5_timeOf 2 = .ok (.iconst 0, 1) := by decide +kernel
theorem dX5_timeOf_3 : decode cX5_timeOf 3 = .ok (.istore 4, 2) := by decide +kernel
theorem dX5_timeOf_5 : decode cX5_timeOf 5 = .ok (.iload 4, 2) := by decide +kernel
theorem dX5_timeOf_7 : decode cX5_timeOf 7 = .ok (.aload_n 0, 1) := by decide +kernel
theorem dX5_timeOf_8 : decode cX5_timeOf 8 = .ok (.getfield 33, 3) := by decide +kernel
theorem dX5_timeOf_11 : decode cX5_timeOf 11 = .ok (.if_icmp .ge 68, 3) := by decide +kernel
theorem dX5_timeOf_14 : decode cX5_timeOf 14 = .ok (.lload_n 2, 1) := by decide +kernel
theorem dX5_timeOf_15 : decode cX5_timeOf 15 = .ok (.aload_n 0, 1) := by decide +kernel
theorem dX5_timeOf_16 : decode cX5_timeOf 16 = .ok (.getfield 26, 3) := by decide +kernel
theorem dX5_timeOf_19 : decode cX5_timeOf 19 = .ok (.iload 4, 2) := by decide +kernel
theorem dX5_timeOf_21 : decode cX5_timeOf 21 = .ok (.aaload, 1) := by decide +kernel
theorem dX5_timeOf_22 : decode cX5_timeOf 22 = .ok (.getfield 94, 3) := by decide +kernel
theorem dX5_timeOf_25 : decode cX5_timeOf 25 = .ok (.iload_n 1, 1) := by decide +kernel
theorem dX5_timeOf_26 : decode cX5_timeOf 26 = .ok (.iaload, 1) := by decide +kernel
theorem dX5_timeOf_27 : decode cX5_timeOf 27 = .ok (.aload_n 0, 1) := by decide +kernel
theorem dX5_timeOf_28 : decode cX5_timeOf 28 = .ok (.getfield 26, 3) := by decide +kernel
theorem dX5_timeOf_31 : decode cX5_timeOf 31 = .ok (.iload 4, 2) := by decide +kernel
theorem dX5_timeOf_33 : decode cX5_timeOf 33 = .ok (.aaload, 1) := by decide +kernel
theorem dX5_timeOf_34 : decode cX5_timeOf 34 = .ok (.getfield 71, 3) := by decide +kernel
theorem dX5_timeOf_37 : decode cX5_timeOf 37 = .ok (.iconst 5, 1) := by decide +kernel
theorem dX5_timeOf_38 : decode cX5_timeOf 38 = .ok (.iaload, 1) := by decide +kernel
theorem dX5_timeOf_39 : decode cX5_timeOf 39 = .ok (.imul, 1) := by decide +kernel
theorem dX5_timeOf_40 : decode cX5_timeOf 40 = .ok (.i2l, 1) := by decide +kernel
theorem dX5_timeOf_41 : decode cX5_timeOf 41 = .ok (.ladd, 1) := by decide +kernel
theorem dX5_timeOf_42 : decode cX5_timeOf 42 = .ok (.lstore_n 2, 1) := by decide +kernel
theorem dX5_timeOf_43 : decode cX5_timeOf 43 = .ok (.aload_n 0, 1) := by decide +kernel
theorem dX5_timeOf_44 : decode cX5_timeOf 44 = .ok (.getfield 49, 3) := by decide +kernel
theorem dX5_timeOf_47 : decode cX5_timeOf 47 = .ok (.iload 4, 2) := by decide +kernel
theorem dX5_timeOf_49 : decode cX5_timeOf 49 = .ok (.iload_n 1, 1) := by decide +kernel
theorem dX5_timeOf_50 : decode cX5_timeOf 50 = .ok (.invokevirtual 124, 3) := by decide +kernel
theorem dX5_timeOf_53 : decode cX5_timeOf 53 = .ok (.ifCond .eq 20, 3) := by decide +kernel
theorem dX5_timeOf_56 : decode cX5_timeOf 56 = .ok (.lload_n 2, 1) := by decide +kernel
theorem dX5_timeOf_57 : decode cX5_timeOf 57 = .ok (.aload_n 0, 1) := by decide +kernel
theorem dX5_timeOf_58 : decode cX5_timeOf 58 = .ok (.getfield 26, 3) := by decide +kernel
theorem dX5_timeOf_61 : decode cX5_timeOf 61 = .ok (.iload 4, 2) := by decide +kernel
theorem dX5_timeOf_63 : decode cX5_timeOf 63 = .ok (.aaload, 1) := by decide +kernel
theorem dX5_timeOf_64 : decode cX5_timeOf 64 = .ok (.getfield 71, 3) := by decide +kernel
theorem dX5_timeOf_67 : decode cX5_timeOf 67 = .ok (.bipush 6, 2) := by decide +kernel
theorem dX5_timeOf_69 : decode cX5_timeOf 69 = .ok (.iaload, 1) := by decide +kernel
theorem dX5_timeOf_70 : decode cX5_timeOf 70 = .ok (.i2l, 1) := by decide +kernel
theorem dX5_timeOf_71 : decode cX5_timeOf 71 = .ok (.ladd, 1) := by decide +kernel
theorem dX5_timeOf_72 : decode cX5_timeOf 72 = .ok (.lstore_n 2, 1) := by decide +kernel
theorem dX5_timeOf_73 : decode cX5_timeOf 73 = .ok (.iinc 4 1, 3) := by decide +kernel
theorem dX5_timeOf_76 : decode cX5_timeOf 76 = .ok (.goto (-71), 3) := by decide +kernel
theorem dX5_timeOf_79 : decode cX5_timeOf 79 = .ok (.lload_n 2, 1) := by decide +kernel
theorem dX5_timeOf_80 : decode cX5_timeOf 80 = .ok (.lreturn, 1) := by decide +kernel
set_option maxRecDepth 20000 in
theorem ggX5_overOf_X5_timeOf : GoodIn wsX5_overOf wsX5_timeOf := goodIn_r _ [10, 11, 12, 13, 14, 15, 16, 17, 18, 19, 20, 21, 22, 23, 24, 25, 26, 27, 28, 29, 30, 31, 32, 33, 34, 35, 36] (by decide +kernel) (by decide +kernel)
set_option maxRecDepth 20000 in
theorem gX5_overOf_X5_timeOf : GoodIn wsX5_overOf (wsV RX5 130 RX5 yX5_timeOf wsX5_timeOf) := goodIn_app (goodIn_of _ (by decide +kernel)) ggX5_overOf_X5_timeOf
theorem dX5_overOf_0 : decode cX5_overOf 0 = .ok (.lconst 0, 1) := by decide +kernel
theorem dX5_overOf_1 : decode cX5_overOf 1 = .ok (.aload_n 0, 1) := by decide +kernel
theorem dX5_overOf_2 : decode cX5_overOf 2 = .ok (.iload_n 1, 1) := by decide +kernel
theorem dX5_overOf_3 : decode cX5_overOf 3 = .ok (.invokevirtual 130, 3) := by decide +kernel
theorem dX5_overOf_6 : decode cX5_overOf 6 = .ok (.aload_n 0, 1) := by decide +kernel
theorem dX5_overOf_7 : decode cX5_overOf 7 = .ok (.getfield 36, 3) := by decide +kernel
theorem dX5_overOf_10 : decode cX5_overOf 10 = .ok (.iload_n 1, 1) := by decide +kernel
theorem dX5_overOf_11 : decode cX5_overOf 11 = .ok (.iaload, 1) := by decide +kernel
theorem dX5_overOf_12 : decode cX5_overOf 12 = .ok (.i2l, 1) := by decide +kernel
theorem dX5_overOf_13 : decode cX5_overOf 13 = .ok (.lsub, 1) := by decide +kernel
theorem dX5_overOf_14 : decode cX5_overOf 14 = .ok (.invokestatic 184, 3) := by decide +kernel
theorem dX5_overOf_17 : decode cX5_overOf 17 = .ok (.lreturn, 1) := by decide +kernel
set_option maxRecDepth 20000 in
theorem ggX5_priceOf_X5_setUpPrices : GoodIn wsX5_priceOf wsX5_setUpPrices := goodIn_r _ [5, 6, 7, 8, 9, 10, 11, 12, 13, 14, 15, 16, 17, 18, 19, 20, 21, 22, 96, 97, 98, 99, 100, 101, 102, 103, 104, 105, 106, 107, 108, 109, 110] (by decide +kernel) (by decide +kernel)
set_option maxRecDepth 20000 in
theorem gX5_priceOf_X5_setUpPrices : GoodIn wsX5_priceOf (wsV RX5 187 RX5 yX5_setUpPrices wsX5_setUpPrices) := goodIn_app (goodIn_of _ (by decide +kernel)) ggX5_priceOf_X5_setUpPrices
set_option maxRecDepth 20000 in
theorem ggX5_priceOf_X5_holdPrices : GoodIn wsX5_priceOf wsX5_holdPrices := goodIn_r _ [26, 8, 9, 7, 10, 27, 28, 29, 30, 31, 32, 33, 34, 35, 4, 36, 37, 38, 39, 40, 41, 42, 43, 44, 45, 46, 47, 48, 49, 50, 51, 52, 53, 54, 55, 56, 57, 58, 59, 60, 61, 62, 63, 64, 65, 66, 67, 68, 69, 70, 71, 72, 73, 74, 75, 76, 77, 78, 96, 97, 98, 99, 100, 101, 102, 103, 104, 105, 106, 107, 108, 111, 112, 113] (by decide +kernel) (by decide +kernel)
set_option maxRecDepth 20000 in
theorem gX5_priceOf_X5_holdPrices : GoodIn wsX5_priceOf (wsV RX5 191 RX5 yX5_holdPrices wsX5_holdPrices) := goodIn_app (goodIn_of _ (by decide +kernel)) ggX5_priceOf_X5_holdPrices
set_option maxRecDepth 20000 in
theorem ggX5_priceOf_X5_overPrices : GoodIn wsX5_priceOf wsX5_overPrices := goodIn_r _ [82, 6, 7, 8, 9, 83, 11, 12, 13, 14, 15, 16, 17, 18, 84, 85, 86, 4, 87, 88, 89, 90, 31, 91, 92, 93, 94, 95, 57, 10, 19, 20, 21, 22, 96, 97, 98, 99, 100, 101, 102, 103, 109, 110, 104, 105, 106, 107, 108] (by decide +kernel) (by decide +kernel)
set_option maxRecDepth 20000 in
theorem gX5_priceOf_X5_overPrices : GoodIn wsX5_priceOf (wsV RX5 194 RX5 yX5_overPrices wsX5_overPrices) := goodIn_app (goodIn_of _ (by decide +kernel)) ggX5_priceOf_X5_overPrices
theorem dX5_priceOf_0 : decode cX5_priceOf 0 = .ok (.iload_n 1, 1) := by decide +kernel
theorem dX5_priceOf_1 : decode cX5_priceOf 1 = .ok (.tableswitch 42 0 2 #[27, 32, 37], 27) := by decide +kernel
theorem dX5_priceOf_28 : decode cX5_priceOf 28 = .ok (.aload_n 0, 1) := by decide +kernel
theorem dX5_priceOf_29 : decode cX5_priceOf 29 = .ok (.invokevirtual 187, 3) := by decide +kernel
theorem dX5_priceOf_32 : decode cX5_priceOf 32 = .ok (.lreturn, 1) := by decide +kernel
theorem dX5_priceOf_33 : decode cX5_priceOf 33 = .ok (.aload_n 0, 1) := by decide +kernel
theorem dX5_priceOf_34 : decode cX5_priceOf 34 = .ok (.invokevirtual 191, 3) := by decide +kernel
theorem dX5_priceOf_37 : decode cX5_priceOf 37 = .ok (.lreturn, 1) := by decide +kernel
theorem dX5_priceOf_38 : decode cX5_priceOf 38 = .ok (.aload_n 0, 1) := by decide +kernel
theorem dX5_priceOf_39 : decode cX5_priceOf 39 = .ok (.invokevirtual 194, 3) := by decide +kernel
theorem dX5_priceOf_42 : decode cX5_priceOf 42 = .ok (.lreturn, 1) := by decide +kernel
theorem dX5_priceOf_43 : decode cX5_priceOf 43 = .ok (.aload_n 0, 1) := by decide +kernel
theorem dX5_priceOf_44 : decode cX5_priceOf 44 = .ok (.invokevirtual 187, 3) := by decide +kernel
theorem dX5_priceOf_47 : decode cX5_priceOf 47 = .ok (.aload_n 0, 1) := by decide +kernel
theorem dX5_priceOf_48 : decode cX5_priceOf 48 = .ok (.invokevirtual 191, 3) := by decide +kernel
theorem dX5_priceOf_51 : decode cX5_priceOf 51 = .ok (.ladd, 1) := by decide +kernel
theorem dX5_priceOf_52 : decode cX5_priceOf 52 = .ok (.aload_n 0, 1) := by decide +kernel
theorem dX5_priceOf_53 : decode cX5_priceOf 53 = .ok (.invokevirtual 194, 3) := by decide +kernel
theorem dX5_priceOf_56 : decode cX5_priceOf 56 = .ok (.ladd, 1) := by decide +kernel
theorem dX5_priceOf_57 : decode cX5_priceOf 57 = .ok (.lreturn, 1) := by decide +kernel
set_option maxRecDepth 20000 in
theorem ggX5_setUpPrices_X3_follow : GoodIn wsX5_setUpPrices wsX3_follow := goodIn_r _ [10, 11, 12, 13, 31, 32, 26, 27, 28, 29, 30] (by decide +kernel) (by decide +kernel)
set_option maxRecDepth 20000 in
theorem gX5_setUpPrices_X3_follow : GoodIn wsX5_setUpPrices (wsV RX5 120 RX3 yX3_follow wsX3_follow) := goodIn_app (goodIn_of _ (by decide +kernel)) ggX5_setUpPrices_X3_follow
set_option maxRecDepth 20000 in
theorem ggX5_setUpPrices_X3_setsUp : GoodIn wsX5_setUpPrices wsX3_setsUp := goodIn_r _ [17, 12, 31, 32] (by decide +kernel) (by decide +kernel)
set_option maxRecDepth 20000 in
theorem gX5_setUpPrices_X3_setsUp : GoodIn wsX5_setUpPrices (wsV RX5 124 RX3 yX3_setsUp wsX3_setsUp) := goodIn_app (goodIn_of _ (by decide +kernel)) ggX5_setUpPrices_X3_setsUp
theorem dX5_setUpPrices_0 : decode cX5_setUpPrices 0 = .ok (.aload_n 0, 1) := by decide +kernel
theorem dX5_setUpPrices_1 : decode cX5_setUpPrices 1 = .ok (.getfield 49, 3) := by decide +kernel
theorem dX5_setUpPrices_4 : decode cX5_setUpPrices 4 = .ok (.aload_n 0, 1) := by decide +kernel
theorem dX5_setUpPrices_5 : decode cX5_setUpPrices 5 = .ok (.getfield 26, 3) := by decide +kernel
theorem dX5_setUpPrices_8 : decode cX5_setUpPrices 8 = .ok (.aload_n 0, 1) := by decide +kernel
theorem dX5_setUpPrices_9 : decode cX5_setUpPrices 9 = .ok (.getfield 33, 3) := by decide +kernel
theorem dX5_setUpPrices_12 : decode cX5_setUpPrices 12 = .ok (.invokevirtual 120, 3) := by decide +kernel
theorem dX5_setUpPrices_15 : decode cX5_setUpPrices 15 = .ok (.lconst 0, 1) := by decide +kernel
theorem dX5_setUpPrices_16 : decode cX5_setUpPrices 16 = .ok (.lstore_n 1, 1) := by decide +kernel
theorem dX5_setUpPrices_17 : decode cX5_setUpPrices 17 = .ok (.iconst 1, 1) := by decide +kernel
theorem dX5_setUpPrices_18 : decode cX5_setUpPrices 18 = .ok (.istore_n 3, 1) := by decide +kernel
theorem dX5_setUpPrices_19 : decode cX5_setUpPrices 19 = .ok (.iload_n 3, 1) := by decide +kernel
theorem dX5_setUpPrices_20 : decode cX5_setUpPrices 20 = .ok (.aload_n 0, 1) := by decide +kernel
theorem dX5_setUpPrices_21 : decode cX5_setUpPrices 21 = .ok (.getfield 20, 3) := by decide +kernel
theorem dX5_setUpPrices_24 : decode cX5_setUpPrices 24 = .ok (.if_icmp .gt 56, 3) := by decide +kernel
theorem dX5_setUpPrices_27 : decode cX5_setUpPrices 27 = .ok (.iconst 0, 1) := by decide +kernel
theorem dX5_setUpPrices_28 : decode cX5_setUpPrices 28 = .ok (.istore 4, 2) := by decide +kernel
theorem dX5_setUpPrices_30 : decode cX5_setUpPrices 30 = .ok (.iload 4, 2) := by decide +kernel
theorem dX5_setUpPrices_32 : decode cX5_setUpPrices 32 = .ok (.aload_n 0, 1) := by decide +kernel
theorem dX5_setUpPrices_33 : decode cX5_setUpPrices 33 = .ok (.getfield 33, 3) := by decide +kernel
theorem dX5_setUpPrices_36 : decode cX5_setUpPrices 36 = .ok (.if_icmp .ge 38, 3) := by decide +kernel
theorem dX5_setUpPrices_39 : decode cX5_setUpPrices 39 = .ok (.aload_n 0, 1) := by decide +kernel
theorem dX5_setUpPrices_40 : decode cX5_setUpPrices 40 = .ok (.getfield 49, 3) := by decide +kernel
theorem dX5_setUpPrices_43 : decode cX5_setUpPrices 43 = .ok (.iload 4, 2) := by decide +kernel
theorem dX5_setUpPrices_45 : decode cX5_setUpPrices 45 = .ok (.iload_n 3, 1) := by decide +kernel
theorem dX5_setUpPrices_46 : decode cX5_setUpPrices 46 = .ok (.invokevirtual 124, 3) := by decide +kernel
theorem dX5_setUpPrices_49 : decode cX5_setUpPrices 49 = .ok (.ifCond .eq 19, 3) := by decide +kernel
theorem dX5_setUpPrices_52 : decode cX5_setUpPrices 52 = .ok (.lload_n 1, 1) := by decide +kernel
theorem dX5_setUpPrices_53 : decode cX5_setUpPrices 53 = .ok (.aload_n 0, 1) := by decide +kernel
theorem dX5_setUpPrices_54 : decode cX5_setUpPrices 54 = .ok (.getfield 26, 3) := by decide +kernel
theorem dX5_setUpPrices_57 : decode cX5_setUpPrices 57 = .ok (.iload 4, 2) := by decide +kernel
theorem dX5_setUpPrices_59 : decode cX5_setUpPrices 59 = .ok (.aaload, 1) := by decide +kernel
theorem dX5_setUpPrices_60 : decode cX5_setUpPrices 60 = .ok (.getfield 71, 3) := by decide +kernel
theorem dX5_setUpPrices_63 : decode cX5_setUpPrices 63 = .ok (.iconst 0, 1) := by decide +kernel
theorem dX5_setUpPrices_64 : decode cX5_setUpPrices 64 = .ok (.iaload, 1) := by decide +kernel
theorem dX5_setUpPrices_65 : decode cX5_setUpPrices 65 = .ok (.i2l, 1) := by decide +kernel
theorem dX5_setUpPrices_66 : decode cX5_setUpPrices 66 = .ok (.ladd, 1) := by decide +kernel
theorem dX5_setUpPrices_67 : decode cX5_setUpPrices 67 = .ok (.lstore_n 1, 1) := by decide +kernel
theorem dX5_setUpPrices_68 : decode cX5_setUpPrices 68 = .ok (.iinc 4 1, 3) := by decide +kernel
theorem dX5_setUpPrices_71 : decode cX5_setUpPrices 71 = .ok (.goto (-41), 3) := by decide +kernel
theorem dX5_setUpPrices_74 : decode cX5_setUpPrices 74 = .ok (.iinc 3 1, 3) := by decide +kernel
theorem dX5_setUpPrices_77 : decode cX5_setUpPrices 77 = .ok (.goto (-58), 3) := by decide +kernel
theorem dX5_setUpPrices_80 : decode cX5_setUpPrices 80 = .ok (.lload_n 1, 1) := by decide +kernel
theorem dX5_setUpPrices_81 : decode cX5_setUpPrices 81 = .ok (.lreturn, 1) := by decide +kernel
set_option maxRecDepth 20000 in
theorem ggX5_holdPrices_X5_runItem : GoodIn wsX5_holdPrices wsX5_runItem := goodIn_r _ [15, 3, 5, 4, 2, 16, 17, 18, 19, 20, 21, 22, 23, 24, 25, 26, 27, 28, 29, 30, 31, 32, 14, 33, 34, 1, 35, 36, 37, 38, 39, 40, 41, 42, 43, 44, 45, 46, 8, 9, 10, 47, 48, 49, 50, 51, 52, 53, 54, 55, 56, 57, 58, 59, 60, 61, 62, 63, 64, 65, 66, 67, 68, 69, 70, 71, 72, 73] (by decide +kernel) (by decide +kernel)
set_option maxRecDepth 20000 in
theorem gX5_holdPrices_X5_runItem : GoodIn wsX5_holdPrices (wsV RX5 105 RX5 yX5_runItem wsX5_runItem) := goodIn_app (goodIn_of _ (by decide +kernel)) ggX5_holdPrices_X5_runItem
theorem dX5_holdPrices_0 : decode cX5_holdPrices 0 = .ok (.lconst 0, 1) := by decide +kernel
theorem dX5_holdPrices_1 : decode cX5_holdPrices 1 = .ok (.lstore_n 1, 1) := by decide +kernel
theorem dX5_holdPrices_2 : decode cX5_holdPrices 2 = .ok (.iconst 0, 1) := by decide +kernel
theorem dX5_holdPrices_3 : decode cX5_holdPrices 3 = .ok (.istore_n 3, 1) := by decide +kernel
theorem dX5_holdPrices_4 : decode cX5_holdPrices 4 = .ok (.iload_n 3, 1) := by decide +kernel
theorem dX5_holdPrices_5 : decode cX5_holdPrices 5 = .ok (.aload_n 0, 1) := by decide +kernel
theorem dX5_holdPrices_6 : decode cX5_holdPrices 6 = .ok (.getfield 33, 3) := by decide +kernel
theorem dX5_holdPrices_9 : decode cX5_holdPrices 9 = .ok (.if_icmp .ge 68, 3) := by decide +kernel
theorem dX5_holdPrices_12 : decode cX5_holdPrices 12 = .ok (.aload_n 0, 1) := by decide +kernel
theorem dX5_holdPrices_13 : decode cX5_holdPrices 13 = .ok (.iload_n 3, 1) := by decide +kernel
theorem dX5_holdPrices_14 : decode cX5_holdPrices 14 = .ok (.invokevirtual 105, 3) := by decide +kernel
theorem dX5_holdPrices_17 : decode cX5_holdPrices 17 = .ok (.iconst 1, 1) := by decide +kernel
theorem dX5_holdPrices_18 : decode cX5_holdPrices 18 = .ok (.istore 4, 2) := by decide +kernel
theorem dX5_holdPrices_20 : decode cX5_holdPrices 20 = .ok (.iload 4, 2) := by decide +kernel
theorem dX5_holdPrices_22 : decode cX5_holdPrices 22 = .ok (.aload_n 0, 1) := by decide +kernel
theorem dX5_holdPrices_23 : decode cX5_holdPrices 23 = .ok (.getfield 20, 3) := by decide +kernel
theorem dX5_holdPrices_26 : decode cX5_holdPrices 26 = .ok (.if_icmp .gt 45, 3) := by decide +kernel
theorem dX5_holdPrices_29 : decode cX5_holdPrices 29 = .ok (.lload_n 1, 1) := by decide +kernel
theorem dX5_holdPrices_30 : decode cX5_holdPrices 30 = .ok (.aload_n 0, 1) := by decide +kernel
theorem dX5_holdPrices_31 : decode cX5_holdPrices 31 = .ok (.getfield 26, 3) := by decide +kernel
theorem dX5_holdPrices_34 : decode cX5_holdPrices 34 = .ok (.iload_n 3, 1) := by decide +kernel
theorem dX5_holdPrices_35 : decode cX5_holdPrices 35 = .ok (.aaload, 1) := by decide +kernel
theorem dX5_holdPrices_36 : decode cX5_holdPrices 36 = .ok (.getfield 71, 3) := by decide +kernel
theorem dX5_holdPrices_39 : decode cX5_holdPrices 39 = .ok (.iconst 1, 1) := by decide +kernel
theorem dX5_holdPrices_40 : decode cX5_holdPrices 40 = .ok (.iaload, 1) := by decide +kernel
theorem dX5_holdPrices_41 : decode cX5_holdPrices 41 = .ok (.i2l, 1) := by decide +kernel
theorem dX5_holdPrices_42 : decode cX5_holdPrices 42 = .ok (.iconst 0, 1) := by decide +kernel
theorem dX5_holdPrices_43 : decode cX5_holdPrices 43 = .ok (.aload_n 0, 1) := by decide +kernel
theorem dX5_holdPrices_44 : decode cX5_holdPrices 44 = .ok (.getfield 26, 3) := by decide +kernel
theorem dX5_holdPrices_47 : decode cX5_holdPrices 47 = .ok (.iload_n 3, 1) := by decide +kernel
theorem dX5_holdPrices_48 : decode cX5_holdPrices 48 = .ok (.aaload, 1) := by decide +kernel
theorem dX5_holdPrices_49 : decode cX5_holdPrices 49 = .ok (.getfield 108, 3) := by decide +kernel
theorem dX5_holdPrices_52 : decode cX5_holdPrices 52 = .ok (.getfield 112, 3) := by decide +kernel
theorem dX5_holdPrices_55 : decode cX5_holdPrices 55 = .ok (.iload 4, 2) := by decide +kernel
theorem dX5_holdPrices_57 : decode cX5_holdPrices 57 = .ok (.iaload, 1) := by decide +kernel
theorem dX5_holdPrices_58 : decode cX5_holdPrices 58 = .ok (.invokestatic 17, 3) := by decide +kernel
theorem dX5_holdPrices_61 : decode cX5_holdPrices 61 = .ok (.i2l, 1) := by decide +kernel
theorem dX5_holdPrices_62 : decode cX5_holdPrices 62 = .ok (.lmul, 1) := by decide +kernel
theorem dX5_holdPrices_63 : decode cX5_holdPrices 63 = .ok (.ladd, 1) := by decide +kernel
theorem dX5_holdPrices_64 : decode cX5_holdPrices 64 = .ok (.lstore_n 1, 1) := by decide +kernel
theorem dX5_holdPrices_65 : decode cX5_holdPrices 65 = .ok (.iinc 4 1, 3) := by decide +kernel
theorem dX5_holdPrices_68 : decode cX5_holdPrices 68 = .ok (.goto (-48), 3) := by decide +kernel
theorem dX5_holdPrices_71 : decode cX5_holdPrices 71 = .ok (.iinc 3 1, 3) := by decide +kernel
theorem dX5_holdPrices_74 : decode cX5_holdPrices 74 = .ok (.goto (-70), 3) := by decide +kernel
theorem dX5_holdPrices_77 : decode cX5_holdPrices 77 = .ok (.lload_n 1, 1) := by decide +kernel
theorem dX5_holdPrices_78 : decode cX5_holdPrices 78 = .ok (.lreturn, 1) := by decide +kernel
set_option maxRecDepth 20000 in
theorem ggX5_overPrices_X3_follow : GoodIn wsX5_overPrices wsX3_follow := goodIn_r _ [10, 11, 12, 13, 42, 43, 44, 45, 46, 47, 48] (by decide +kernel) (by decide +kernel)
set_option maxRecDepth 20000 in
theorem gX5_overPrices_X3_follow : GoodIn wsX5_overPrices (wsV RX5 120 RX3 yX3_follow wsX3_follow) := goodIn_app (goodIn_of _ (by decide +kernel)) ggX5_overPrices_X3_follow
set_option maxRecDepth 20000 in
theorem ggX5_overPrices_X5_overOf : GoodIn wsX5_overPrices wsX5_overOf := goodIn_r _ [18, 19, 20, 21, 22, 23, 24, 25, 26, 17, 27, 3, 2, 28, 29, 1, 30, 31, 32, 9, 33, 12, 34, 35, 36, 37, 38, 39, 40, 41, 44, 45, 46, 47, 48, 42, 43] (by decide +kernel) (by decide +kernel)
set_option maxRecDepth 20000 in
theorem gX5_overPrices_X5_overOf : GoodIn wsX5_overPrices (wsV RX5 197 RX5 yX5_overOf wsX5_overOf) := goodIn_app (goodIn_of _ (by decide +kernel)) ggX5_overPrices_X5_overOf
theorem dX5_overPrices_0 : decode cX5_overPrices 0 = .ok (.aload_n 0, 1) := by decide +kernel
theorem dX5_overPrices_1 : decode cX5_overPrices 1 = .ok (.getfield 49, 3) := by decide +kernel
theorem dX5_overPrices_4 : decode cX5_overPrices 4 = .ok (.aload_n 0, 1) := by decide +kernel
theorem dX5_overPrices_5 : decode cX5_overPrices 5 = .ok (.getfield 26, 3) := by decide +kernel
theorem dX5_overPrices_8 : decode cX5_overPrices 8 = .ok (.aload_n 0, 1) := by decide +kernel
theorem dX5_overPrices_9 : decode cX5_overPrices 9 = .ok (.getfield 33, 3) := by decide +kernel
theorem dX5_overPrices_12 : decode cX5_overPrices 12 = .ok (.invokevirtual 120, 3) := by decide +kernel
theorem dX5_overPrices_15 : decode cX5_overPrices 15 = .ok (.lconst 0, 1) := by decide +kernel
theorem dX5_overPrices_16 : decode cX5_overPrices 16 = .ok (.lstore_n 1, 1) := by decide +kernel
theorem dX5_overPrices_17 : decode cX5_overPrices 17 = .ok (.iconst 1, 1) := by decide +kernel
theorem dX5_overPrices_18 : decode cX5_overPrices 18 = .ok (.istore_n 3, 1) := by decide +kernel
theorem dX5_overPrices_19 : decode cX5_overPrices 19 = .ok (.iload_n 3, 1) := by decide +kernel
theorem dX5_overPrices_20 : decode cX5_overPrices 20 = .ok (.aload_n 0, 1) := by decide +kernel
theorem dX5_overPrices_21 : decode cX5_overPrices 21 = .ok (.getfield 20, 3) := by decide +kernel
theorem dX5_overPrices_24 : decode cX5_overPrices 24 = .ok (.if_icmp .gt 25, 3) := by decide +kernel
theorem dX5_overPrices_27 : decode cX5_overPrices 27 = .ok (.lload_n 1, 1) := by decide +kernel
theorem dX5_overPrices_28 : decode cX5_overPrices 28 = .ok (.aload_n 0, 1) := by decide +kernel
theorem dX5_overPrices_29 : decode cX5_overPrices 29 = .ok (.getfield 43, 3) := by decide +kernel
theorem dX5_overPrices_32 : decode cX5_overPrices 32 = .ok (.iconst 0, 1) := by decide +kernel
theorem dX5_overPrices_33 : decode cX5_overPrices 33 = .ok (.iaload, 1) := by decide +kernel
theorem dX5_overPrices_34 : decode cX5_overPrices 34 = .ok (.i2l, 1) := by decide +kernel
theorem dX5_overPrices_35 : decode cX5_overPrices 35 = .ok (.aload_n 0, 1) := by decide +kernel
theorem dX5_overPrices_36 : decode cX5_overPrices 36 = .ok (.iload_n 3, 1) := by decide +kernel
theorem dX5_overPrices_37 : decode cX5_overPrices 37 = .ok (.invokevirtual 197, 3) := by decide +kernel
theorem dX5_overPrices_40 : decode cX5_overPrices 40 = .ok (.lmul, 1) := by decide +kernel
theorem dX5_overPrices_41 : decode cX5_overPrices 41 = .ok (.ladd, 1) := by decide +kernel
theorem dX5_overPrices_42 : decode cX5_overPrices 42 = .ok (.lstore_n 1, 1) := by decide +kernel
theorem dX5_overPrices_43 : decode cX5_overPrices 43 = .ok (.iinc 3 1, 3) := by decide +kernel
theorem dX5_overPrices_46 : decode cX5_overPrices 46 = .ok (.goto (-27), 3) := by decide +kernel
theorem dX5_overPrices_49 : decode cX5_overPrices 49 = .ok (.lload_n 1, 1) := by decide +kernel
theorem dX5_overPrices_50 : decode cX5_overPrices 50 = .ok (.lreturn, 1) := by decide +kernel
set_option maxRecDepth 20000 in
theorem ggX5_findFaults_X5_runItem : GoodIn wsX5_findFaults wsX5_runItem := goodIn_r _ [11, 3, 12, 13, 6, 14, 15, 16, 17, 18, 19, 20, 21, 22, 23, 24, 25, 26, 27, 28, 29, 30, 10, 31, 32, 1, 33, 34, 35, 36, 37, 38, 39, 40, 41, 42, 43, 44, 45, 46, 47, 48, 49, 50, 51, 52, 53, 54, 55, 56, 57, 58, 104, 105, 106, 107, 108, 109, 110, 111, 114, 115, 116, 117, 118, 119, 120, 121] (by decide +kernel) (by decide +kernel)
set_option maxRecDepth 20000 in
theorem gX5_findFaults_X5_runItem : GoodIn wsX5_findFaults (wsV RX5 105 RX5 yX5_runItem wsX5_runItem) := goodIn_app (goodIn_of _ (by decide +kernel)) ggX5_findFaults_X5_runItem
set_option maxRecDepth 20000 in
theorem ggX5_findFaults_X3_follow : GoodIn wsX5_findFaults wsX3_follow := goodIn_r _ [63, 64, 65, 66, 122, 123, 114, 115, 116, 117, 118] (by decide +kernel) (by decide +kernel)
set_option maxRecDepth 20000 in
theorem gX5_findFaults_X3_follow : GoodIn wsX5_findFaults (wsV RX5 120 RX3 yX3_follow wsX3_follow) := goodIn_app (goodIn_of _ (by decide +kernel)) ggX5_findFaults_X3_follow
set_option maxRecDepth 20000 in
theorem ggX5_findFaults_X5_findOwing : GoodIn wsX5_findFaults wsX5_findOwing := goodIn_r _ [70, 1, 3, 12, 4, 71, 41, 42, 17, 43, 19, 44, 45, 46, 47, 72, 73, 74, 75, 76, 77, 78, 104, 105, 106, 107, 108, 109, 110, 111, 114, 115, 116, 117, 118, 119, 120, 121, 112, 113] (by decide +kernel) (by decide +kernel)
set_option maxRecDepth 20000 in
theorem gX5_findFaults_X5_findOwing : GoodIn wsX5_findFaults (wsV RX5 200 RX5 yX5_findOwing wsX5_findOwing) := goodIn_app (goodIn_of _ (by decide +kernel)) ggX5_findFaults_X5_findOwing
set_option maxRecDepth 20000 in
theorem ggX5_findFaults_X5_findBelowLeast : GoodIn wsX5_findFaults wsX5_findBelowLeast := goodIn_r _ [82, 1, 3, 34, 13, 4, 72, 73, 74, 75, 76, 77, 78, 104, 105, 106, 107, 108, 109, 110, 111, 114, 115, 116, 117, 118, 112, 113] (by decide +kernel) (by decide +kernel)
set_option maxRecDepth 20000 in
theorem gX5_findFaults_X5_findBelowLeast : GoodIn wsX5_findFaults (wsV RX5 203 RX5 yX5_findBelowLeast wsX5_findBelowLeast) := goodIn_app (goodIn_of _ (by decide +kernel)) ggX5_findFaults_X5_findBelowLeast
set_option maxRecDepth 20000 in
theorem ggX5_findFaults_X5_findAboveMostOver : GoodIn wsX5_findFaults wsX5_findAboveMostOver := goodIn_r _ [86, 87, 4, 88, 89, 90, 10, 91, 92, 93, 94, 46, 95, 96, 97, 98, 99, 1, 3, 34, 13, 2, 100, 101, 102, 62, 103, 65, 72, 73, 74, 75, 76, 77, 78, 104, 105, 106, 107, 108, 109, 110, 111, 114, 115, 116, 117, 118, 122, 123, 112, 113] (by decide +kernel) (by decide +kernel)
set_option maxRecDepth 20000 in
theorem gX5_findFaults_X5_findAboveMostOver : GoodIn wsX5_findFaults (wsV RX5 206 RX5 yX5_findAboveMostOver wsX5_findAboveMostOver) := goodIn_app (goodIn_of _ (by decide +kernel)) ggX5_findFaults_X5_findAboveMostOver
theorem dX5_findFaults_0 : decode cX5_findFaults 0 = .ok (.iconst 0, 1) := by decide +kernel
theorem dX5_findFaults_1 : decode cX5_findFaults 1 = .ok (.istore_n 1, 1) := by decide +kernel
theorem dX5_findFaults_2 : decode cX5_findFaults 2 = .ok (.iload_n 1, 1) := by decide +kernel
theorem dX5_findFaults_3 : decode cX5_findFaults 3 = .ok (.aload_n 0, 1) := by decide +kernel
theorem dX5_findFaults_4 : decode cX5_findFaults 4 = .ok (.getfield 33, 3) := by decide +kernel
theorem dX5_findFaults_7 : decode cX5_findFaults 7 = .ok (.if_icmp .ge 14, 3) := by decide +kernel
theorem dX5_findFaults_10 : decode cX5_findFaults 10 = .ok (.aload_n 0, 1) := by decide +kernel
theorem dX5_findFaults_11 : decode cX5_findFaults 11 = .ok (.iload_n 1, 1) := by decide +kernel
theorem dX5_findFaults_12 : decode cX5_findFaults 12 = .ok (.invokevirtual 105, 3) := by decide +kernel
theorem dX5_findFaults_15 : decode cX5_findFaults 15 = .ok (.iinc 1 1, 3) := by decide +kernel
theorem dX5_findFaults_18 : decode cX5_findFaults 18 = .ok (.goto (-16), 3) := by decide +kernel
theorem dX5_findFaults_21 : decode cX5_findFaults 21 = .ok (.aload_n 0, 1) := by decide +kernel
theorem dX5_findFaults_22 : decode cX5_findFaults 22 = .ok (.getfield 49, 3) := by decide +kernel
theorem dX5_findFaults_25 : decode cX5_findFaults 25 = .ok (.aload_n 0, 1) := by decide +kernel
theorem dX5_findFaults_26 : decode cX5_findFaults 26 = .ok (.getfield 26, 3) := by decide +kernel
theorem dX5_findFaults_29 : decode cX5_findFaults 29 = .ok (.aload_n 0, 1) := by decide +kernel
theorem dX5_findFaults_30 : decode cX5_findFaults 30 = .ok (.getfield 33, 3) := by decide +kernel
theorem dX5_findFaults_33 : decode cX5_findFaults 33 = .ok (.invokevirtual 120, 3) := by decide +kernel
theorem dX5_findFaults_36 : decode cX5_findFaults 36 = .ok (.aload_n 0, 1) := by decide +kernel
theorem dX5_findFaults_37 : decode cX5_findFaults 37 = .ok (.getfield 56, 3) := by decide +kernel
theorem dX5_findFaults_40 : decode cX5_findFaults 40 = .ok (.iconst 0, 1) := by decide +kernel
theorem dX5_findFaults_41 : decode cX5_findFaults 41 = .ok (.putfield 143, 3) := by decide +kernel
theorem dX5_findFaults_44 : decode cX5_findFaults 44 = .ok (.iconst 1, 1) := by decide +kernel
theorem dX5_findFaults_45 : decode cX5_findFaults 45 = .ok (.istore_n 1, 1) := by decide +kernel
theorem dX5_findFaults_46 : decode cX5_findFaults 46 = .ok (.iload_n 1, 1) := by decide +kernel
theorem dX5_findFaults_47 : decode cX5_findFaults 47 = .ok (.aload_n 0, 1) := by decide +kernel
theorem dX5_findFaults_48 : decode cX5_findFaults 48 = .ok (.getfield 20, 3) := by decide +kernel
theorem dX5_findFaults_51 : decode cX5_findFaults 51 = .ok (.if_icmp .gt 24, 3) := by decide +kernel
theorem dX5_findFaults_54 : decode cX5_findFaults 54 = .ok (.aload_n 0, 1) := by decide +kernel
theorem dX5_findFaults_55 : decode cX5_findFaults 55 = .ok (.iload_n 1, 1) := by decide +kernel
theorem dX5_findFaults_56 : decode cX5_findFaults 56 = .ok (.invokevirtual 200, 3) := by decide +kernel
theorem dX5_findFaults_59 : decode cX5_findFaults 59 = .ok (.aload_n 0, 1) := by decide +kernel
theorem dX5_findFaults_60 : decode cX5_findFaults 60 = .ok (.iload_n 1, 1) := by decide +kernel
theorem dX5_findFaults_61 : decode cX5_findFaults 61 = .ok (.invokevirtual 203, 3) := by decide +kernel
theorem dX5_findFaults_64 : decode cX5_findFaults 64 = .ok (.aload_n 0, 1) := by decide +kernel
theorem dX5_findFaults_65 : decode cX5_findFaults 65 = .ok (.iload_n 1, 1) := by decide +kernel
theorem dX5_findFaults_66 : decode cX5_findFaults 66 = .ok (.invokevirtual 206, 3) := by decide +kernel
theorem dX5_findFaults_69 : decode cX5_findFaults 69 = .ok (.iinc 1 1, 3) := by decide +kernel
theorem dX5_findFaults_72 : decode cX5_findFaults 72 = .ok (.goto (-26), 3) := by decide +kernel
theorem dX5_findFaults_75 : decode cX5_findFaults 75 = .ok (.return_, 1) := by decide +kernel
set_option maxRecDepth 20000 in
theorem ggX5_findOwing_X4_owedAt : GoodIn wsX5_findOwing wsX4_owedAt := goodIn_r _ [9, 10, 11, 12, 13, 14, 35, 36, 37] (by decide +kernel) (by decide +kernel)
set_option maxRecDepth 20000 in
theorem gX5_findOwing_X4_owedAt : GoodIn wsX5_findOwing (wsV RX5 209 RX4 yX4_owedAt wsX4_owedAt) := goodIn_app (goodIn_of _ (by decide +kernel)) ggX5_findOwing_X4_owedAt
set_option maxRecDepth 20000 in
theorem ggX5_findOwing_X1_put : GoodIn wsX5_findOwing wsX1_put := goodIn_r _ [19, 20, 21, 38, 39] (by decide +kernel) (by decide +kernel)
set_option maxRecDepth 20000 in
theorem gX5_findOwing_X1_put : GoodIn wsX5_findOwing (wsV RX5 212 RX1 yX1_put wsX1_put) := goodIn_app (goodIn_of _ (by decide +kernel)) ggX5_findOwing_X1_put
theorem dX5_findOwing_0 : decode cX5_findOwing 0 = .ok (.iconst 0, 1) := by decide +kernel
theorem dX5_findOwing_1 : decode cX5_findOwing 1 = .ok (.istore_n 2, 1) := by decide +kernel
theorem dX5_findOwing_2 : decode cX5_findOwing 2 = .ok (.iload_n 2, 1) := by decide +kernel
theorem dX5_findOwing_3 : decode cX5_findOwing 3 = .ok (.aload_n 0, 1) := by decide +kernel
theorem dX5_findOwing_4 : decode cX5_findOwing 4 = .ok (.getfield 33, 3) := by decide +kernel
theorem dX5_findOwing_7 : decode cX5_findOwing 7 = .ok (.if_icmp .ge 38, 3) := by decide +kernel
theorem dX5_findOwing_10 : decode cX5_findOwing 10 = .ok (.aload_n 0, 1) := by decide +kernel
theorem dX5_findOwing_11 : decode cX5_findOwing 11 = .ok (.getfield 26, 3) := by decide +kernel
theorem dX5_findOwing_14 : decode cX5_findOwing 14 = .ok (.iload_n 2, 1) := by decide +kernel
theorem dX5_findOwing_15 : decode cX5_findOwing 15 = .ok (.aaload, 1) := by decide +kernel
theorem dX5_findOwing_16 : decode cX5_findOwing 16 = .ok (.getfield 108, 3) := by decide +kernel
theorem dX5_findOwing_19 : decode cX5_findOwing 19 = .ok (.iload_n 1, 1) := by decide +kernel
theorem dX5_findOwing_20 : decode cX5_findOwing 20 = .ok (.invokevirtual 209, 3) := by decide +kernel
theorem dX5_findOwing_23 : decode cX5_findOwing 23 = .ok (.istore_n 3, 1) := by decide +kernel
theorem dX5_findOwing_24 : decode cX5_findOwing 24 = .ok (.iload_n 3, 1) := by decide +kernel
theorem dX5_findOwing_25 : decode cX5_findOwing 25 = .ok (.ifCond .le 14, 3) := by decide +kernel
theorem dX5_findOwing_28 : decode cX5_findOwing 28 = .ok (.aload_n 0, 1) := by decide +kernel
theorem dX5_findOwing_29 : decode cX5_findOwing 29 = .ok (.getfield 56, 3) := by decide +kernel
theorem dX5_findOwing_32 : decode cX5_findOwing 32 = .ok (.iconst 1, 1) := by decide +kernel
theorem dX5_findOwing_33 : decode cX5_findOwing 33 = .ok (.iload_n 1, 1) := by decide +kernel
theorem dX5_findOwing_34 : decode cX5_findOwing 34 = .ok (.iload_n 2, 1) := by decide +kernel
theorem dX5_findOwing_35 : decode cX5_findOwing 35 = .ok (.iload_n 3, 1) := by decide +kernel
theorem dX5_findOwing_36 : decode cX5_findOwing 36 = .ok (.invokevirtual 212, 3) := by decide +kernel
theorem dX5_findOwing_39 : decode cX5_findOwing 39 = .ok (.iinc 2 1, 3) := by decide +kernel
theorem dX5_findOwing_42 : decode cX5_findOwing 42 = .ok (.goto (-40), 3) := by decide +kernel
theorem dX5_findOwing_45 : decode cX5_findOwing 45 = .ok (.return_, 1) := by decide +kernel
set_option maxRecDepth 20000 in
theorem ggX5_findBelowLeast_X1_put : GoodIn wsX5_findBelowLeast wsX1_put := goodIn_r _ [10, 11, 12, 26, 27] (by decide +kernel) (by decide +kernel)
set_option maxRecDepth 20000 in
theorem gX5_findBelowLeast_X1_put : GoodIn wsX5_findBelowLeast (wsV RX5 212 RX1 yX1_put wsX1_put) := goodIn_app (goodIn_of _ (by decide +kernel)) ggX5_findBelowLeast_X1_put
theorem dX5_findBelowLeast_0 : decode cX5_findBelowLeast 0 = .ok (.iconst 0, 1) := by decide +kernel
theorem dX5_findBelowLeast_1 : decode cX5_findBelowLeast 1 = .ok (.istore_n 2, 1) := by decide +kernel
theorem dX5_findBelowLeast_2 : decode cX5_findBelowLeast 2 = .ok (.iload_n 2, 1) := by decide +kernel
theorem dX5_findBelowLeast_3 : decode cX5_findBelowLeast 3 = .ok (.aload_n 0, 1) := by decide +kernel
theorem dX5_findBelowLeast_4 : decode cX5_findBelowLeast 4 = .ok (.getfield 33, 3) := by decide +kernel
theorem dX5_findBelowLeast_7 : decode cX5_findBelowLeast 7 = .ok (.if_icmp .ge 58, 3) := by decide +kernel
theorem dX5_findBelowLeast_10 : decode cX5_findBelowLeast 10 = .ok (.aload_n 0, 1) := by decide +kernel
theorem dX5_findBelowLeast_11 : decode cX5_findBelowLeast 11 = .ok (.getfield 26, 3) := by decide +kernel
theorem dX5_findBelowLeast_14 : decode cX5_findBelowLeast 14 = .ok (.iload_n 2, 1) := by decide +kernel
theorem dX5_findBelowLeast_15 : decode cX5_findBelowLeast 15 = .ok (.aaload, 1) := by decide +kernel
theorem dX5_findBelowLeast_16 : decode cX5_findBelowLeast 16 = .ok (.getfield 94, 3) := by decide +kernel
theorem dX5_findBelowLeast_19 : decode cX5_findBelowLeast 19 = .ok (.iload_n 1, 1) := by decide +kernel
theorem dX5_findBelowLeast_20 : decode cX5_findBelowLeast 20 = .ok (.iaload, 1) := by decide +kernel
theorem dX5_findBelowLeast_21 : decode cX5_findBelowLeast 21 = .ok (.istore_n 3, 1) := by decide +kernel
theorem dX5_findBelowLeast_22 : decode cX5_findBelowLeast 22 = .ok (.aload_n 0, 1) := by decide +kernel
theorem dX5_findBelowLeast_23 : decode cX5_findBelowLeast 23 = .ok (.getfield 26, 3) := by decide +kernel
theorem dX5_findBelowLeast_26 : decode cX5_findBelowLeast 26 = .ok (.iload_n 2, 1) := by decide +kernel
theorem dX5_findBelowLeast_27 : decode cX5_findBelowLeast 27 = .ok (.aaload, 1) := by decide +kernel
theorem dX5_findBelowLeast_28 : decode cX5_findBelowLeast 28 = .ok (.getfield 71, 3) := by decide +kernel
theorem dX5_findBelowLeast_31 : decode cX5_findBelowLeast 31 = .ok (.iconst 2, 1) := by decide +kernel
theorem dX5_findBelowLeast_32 : decode cX5_findBelowLeast 32 = .ok (.iaload, 1) := by decide +kernel
theorem dX5_findBelowLeast_33 : decode cX5_findBelowLeast 33 = .ok (.istore 4, 2) := by decide +kernel
theorem dX5_findBelowLeast_35 : decode cX5_findBelowLeast 35 = .ok (.iload_n 3, 1) := by decide +kernel
theorem dX5_findBelowLeast_36 : decode cX5_findBelowLeast 36 = .ok (.ifCond .le 23, 3) := by decide +kernel
theorem dX5_findBelowLeast_39 : decode cX5_findBelowLeast 39 = .ok (.iload_n 3, 1) := by decide +kernel
theorem dX5_findBelowLeast_40 : decode cX5_findBelowLeast 40 = .ok (.iload 4, 2) := by decide +kernel
theorem dX5_findBelowLeast_42 : decode cX5_findBelowLeast 42 = .ok (.if_icmp .ge 17, 3) := by decide +kernel
theorem dX5_findBelowLeast_45 : decode cX5_findBelowLeast 45 = .ok (.aload_n 0, 1) := by decide +kernel
theorem dX5_findBelowLeast_46 : decode cX5_findBelowLeast 46 = .ok (.getfield 56, 3) := by decide +kernel
theorem dX5_findBelowLeast_49 : decode cX5_findBelowLeast 49 = .ok (.iconst 2, 1) := by decide +kernel
theorem dX5_findBelowLeast_50 : decode cX5_findBelowLeast 50 = .ok (.iload_n 1, 1) := by decide +kernel
theorem dX5_findBelowLeast_51 : decode cX5_findBelowLeast 51 = .ok (.iload_n 2, 1) := by decide +kernel
theorem dX5_findBelowLeast_52 : decode cX5_findBelowLeast 52 = .ok (.iload 4, 2) := by decide +kernel
theorem dX5_findBelowLeast_54 : decode cX5_findBelowLeast 54 = .ok (.iload_n 3, 1) := by decide +kernel
theorem dX5_findBelowLeast_55 : decode cX5_findBelowLeast 55 = .ok (.isub, 1) := by decide +kernel
theorem dX5_findBelowLeast_56 : decode cX5_findBelowLeast 56 = .ok (.invokevirtual 212, 3) := by decide +kernel
theorem dX5_findBelowLeast_59 : decode cX5_findBelowLeast 59 = .ok (.iinc 2 1, 3) := by decide +kernel
theorem dX5_findBelowLeast_62 : decode cX5_findBelowLeast 62 = .ok (.goto (-60), 3) := by decide +kernel
theorem dX5_findBelowLeast_65 : decode cX5_findBelowLeast 65 = .ok (.return_, 1) := by decide +kernel
set_option maxRecDepth 20000 in
theorem ggX5_findAboveMostOver_X5_overOf : GoodIn wsX5_findAboveMostOver wsX5_overOf := goodIn_r _ [7, 8, 9, 10, 11, 12, 13, 14, 15, 6, 16, 17, 18, 19, 20, 21, 22, 23, 24, 25, 26, 27, 35, 36, 37, 38, 39, 40, 41, 42, 43, 44, 45, 46, 47, 48, 49] (by decide +kernel) (by decide +kernel)
set_option maxRecDepth 20000 in
theorem gX5_findAboveMostOver_X5_overOf : GoodIn wsX5_findAboveMostOver (wsV RX5 197 RX5 yX5_overOf wsX5_overOf) := goodIn_app (goodIn_of _ (by decide +kernel)) ggX5_findAboveMostOver_X5_overOf
set_option maxRecDepth 20000 in
theorem ggX5_findAboveMostOver_X1_put : GoodIn wsX5_findAboveMostOver wsX1_put := goodIn_r _ [32, 33, 34, 50, 51] (by decide +kernel) (by decide +kernel)
set_option maxRecDepth 20000 in
theorem gX5_findAboveMostOver_X1_put : GoodIn wsX5_findAboveMostOver (wsV RX5 212 RX1 yX1_put wsX1_put) := goodIn_app (goodIn_of _ (by decide +kernel)) ggX5_findAboveMostOver_X1_put
theorem dX5_findAboveMostOver_0 : decode cX5_findAboveMostOver 0 = .ok (.aload_n 0, 1) := by decide +kernel
theorem dX5_findAboveMostOver_1 : decode cX5_findAboveMostOver 1 = .ok (.iload_n 1, 1) := by decide +kernel
theorem dX5_findAboveMostOver_2 : decode cX5_findAboveMostOver 2 = .ok (.invokevirtual 197, 3) := by decide +kernel
theorem dX5_findAboveMostOver_5 : decode cX5_findAboveMostOver 5 = .ok (.aload_n 0, 1) := by decide +kernel
theorem dX5_findAboveMostOver_6 : decode cX5_findAboveMostOver 6 = .ok (.getfield 43, 3) := by decide +kernel
theorem dX5_findAboveMostOver_9 : decode cX5_findAboveMostOver 9 = .ok (.iconst 1, 1) := by decide +kernel
theorem dX5_findAboveMostOver_10 : decode cX5_findAboveMostOver 10 = .ok (.iaload, 1) := by decide +kernel
theorem dX5_findAboveMostOver_11 : decode cX5_findAboveMostOver 11 = .ok (.i2l, 1) := by decide +kernel
theorem dX5_findAboveMostOver_12 : decode cX5_findAboveMostOver 12 = .ok (.lsub, 1) := by decide +kernel
theorem dX5_findAboveMostOver_13 : decode cX5_findAboveMostOver 13 = .ok (.lstore_n 2, 1) := by decide +kernel
theorem dX5_findAboveMostOver_14 : decode cX5_findAboveMostOver 14 = .ok (.lload_n 2, 1) := by decide +kernel
theorem dX5_findAboveMostOver_15 : decode cX5_findAboveMostOver 15 = .ok (.lconst 0, 1) := by decide +kernel
theorem dX5_findAboveMostOver_16 : decode cX5_findAboveMostOver 16 = .ok (.lcmp, 1) := by decide +kernel
theorem dX5_findAboveMostOver_17 : decode cX5_findAboveMostOver 17 = .ok (.ifCond .le 16, 3) := by decide +kernel
theorem dX5_findAboveMostOver_20 : decode cX5_findAboveMostOver 20 = .ok (.aload_n 0, 1) := by decide +kernel
theorem dX5_findAboveMostOver_21 : decode cX5_findAboveMostOver 21 = .ok (.getfield 56, 3) := by decide +kernel
theorem dX5_findAboveMostOver_24 : decode cX5_findAboveMostOver 24 = .ok (.iconst 3, 1) := by decide +kernel
theorem dX5_findAboveMostOver_25 : decode cX5_findAboveMostOver 25 = .ok (.iload_n 1, 1) := by decide +kernel
theorem dX5_findAboveMostOver_26 : decode cX5_findAboveMostOver 26 = .ok (.bipush (-3), 2) := by decide +kernel
theorem dX5_findAboveMostOver_28 : decode cX5_findAboveMostOver 28 = .ok (.lload_n 2, 1) := by decide +kernel
theorem dX5_findAboveMostOver_29 : decode cX5_findAboveMostOver 29 = .ok (.l2i, 1) := by decide +kernel
theorem dX5_findAboveMostOver_30 : decode cX5_findAboveMostOver 30 = .ok (.invokevirtual 212, 3) := by decide +kernel
theorem dX5_findAboveMostOver_33 : decode cX5_findAboveMostOver 33 = .ok (.return_, 1) := by decide +kernel
