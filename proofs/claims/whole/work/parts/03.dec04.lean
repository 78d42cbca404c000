theorem dX0_init_0 : decode cX0_init 0 = .ok (.aload_n 0, 1) := by decide +kernel
theorem dX0_init_1 : decode cX0_init 1 = .ok (.invokespecial 3, 3) := by decide +kernel
theorem dX0_init_4 : decode cX0_init 4 = .ok (.aload_n 0, 1) := by decide +kernel
theorem dX0_init_5 : decode cX0_init 5 = .ok (.iload_n 1, 1) := by decide +kernel
theorem dX0_init_6 : decode cX0_init 6 = .ok (.putfield 9, 3) := by decide +kernel
theorem dX0_init_9 : decode cX0_init 9 = .ok (.aload_n 0, 1) := by decide +kernel
theorem dX0_init_10 : decode cX0_init 10 = .ok (.iload_n 1, 1) := by decide +kernel
theorem dX0_init_11 : decode cX0_init 11 = .ok (.iconst 1, 1) := by decide +kernel
theorem dX0_init_12 : decode cX0_init 12 = .ok (.iadd, 1) := by decide +kernel
theorem dX0_init_13 : decode cX0_init 13 = .ok (.newarray .int, 2) := by decide +kernel
theorem dX0_init_15 : decode cX0_init 15 = .ok (.putfield 15, 3) := by decide +kernel
theorem dX0_init_18 : decode cX0_init 18 = .ok (.aload_n 0, 1) := by decide +kernel
theorem dX0_init_19 : decode cX0_init 19 = .ok (.iload_n 1, 1) := by decide +kernel
theorem dX0_init_20 : decode cX0_init 20 = .ok (.iconst 2, 1) := by decide +kernel
theorem dX0_init_21 : decode cX0_init 21 = .ok (.iadd, 1) := by decide +kernel
theorem dX0_init_22 : decode cX0_init 22 = .ok (.newarray .long, 2) := by decide +kernel
theorem dX0_init_24 : decode cX0_init 24 = .ok (.putfield 19, 3) := by decide +kernel
theorem dX0_init_27 : decode cX0_init 27 = .ok (.aload_n 0, 1) := by decide +kernel
theorem dX0_init_28 : decode cX0_init 28 = .ok (.iload_n 1, 1) := by decide +kernel
theorem dX0_init_29 : decode cX0_init 29 = .ok (.iconst 1, 1) := by decide +kernel
theorem dX0_init_30 : decode cX0_init 30 = .ok (.iadd, 1) := by decide +kernel
theorem dX0_init_31 : decode cX0_init 31 = .ok (.newarray .int, 2) := by decide +kernel
theorem dX0_init_33 : decode cX0_init 33 = .ok (.putfield 23, 3) := by decide +kernel
theorem dX0_init_36 : decode cX0_init 36 = .ok (.aload_n 0, 1) := by decide +kernel
theorem dX0_init_37 : decode cX0_init 37 = .ok (.iload_n 1, 1) := by decide +kernel
theorem dX0_init_38 : decode cX0_init 38 = .ok (.iconst 1, 1) := by decide +kernel
theorem dX0_init_39 : decode cX0_init 39 = .ok (.iadd, 1) := by decide +kernel
theorem dX0_init_40 : decode cX0_init 40 = .ok (.newarray .int, 2) := by decide +kernel
theorem dX0_init_42 : decode cX0_init 42 = .ok (.putfield 26, 3) := by decide +kernel
theorem dX0_init_45 : decode cX0_init 45 = .ok (.return_, 1) := by decide +kernel
set_option maxRecDepth 20000 in
theorem ggX0_plan_X0_findNets : GoodIn wsX0_plan wsX0_findNets := goodIn_r _ [8, 3, 9, 10, 11, 12, 13, 38, 39, 40, 41, 42] (by decide +kernel) (by decide +kernel)
set_option maxRecDepth 20000 in
theorem gX0_plan_X0_findNets : GoodIn wsX0_plan (wsV RX0 37 RX0 yX0_findNets wsX0_findNets) := goodIn_app (goodIn_of _ (by decide +kernel)) ggX0_plan_X0_findNets
set_option maxRecDepth 20000 in
theorem ggX0_plan_X0_choose : GoodIn wsX0_plan wsX0_choose := goodIn_r _ [17, 13, 18, 19, 3, 9, 10, 11, 12, 20, 38, 39, 40, 41, 42] (by decide +kernel) (by decide +kernel)
set_option maxRecDepth 20000 in
theorem gX0_plan_X0_choose : GoodIn wsX0_plan (wsV RX0 41 RX0 yX0_choose wsX0_choose) := goodIn_app (goodIn_of _ (by decide +kernel)) ggX0_plan_X0_choose
set_option maxRecDepth 20000 in
theorem ggX0_plan_X0_followChoices : GoodIn wsX0_plan wsX0_followChoices := goodIn_r _ [24, 3, 25, 20, 26, 27, 11, 28, 29, 30, 31, 7, 32, 13, 38, 39, 40, 41, 42] (by decide +kernel) (by decide +kernel)
set_option maxRecDepth 20000 in
theorem gX0_plan_X0_followChoices : GoodIn wsX0_plan (wsV RX0 45 RX0 yX0_followChoices wsX0_followChoices) := goodIn_app (goodIn_of _ (by decide +kernel)) ggX0_plan_X0_followChoices
theorem dX0_plan_0 : decode cX0_plan 0 = .ok (.aload_n 0, 1) := by decide +kernel
theorem dX0_plan_1 : decode cX0_plan 1 = .ok (.aload_n 1, 1) := by decide +kernel
theorem dX0_plan_2 : decode cX0_plan 2 = .ok (.getfield 29, 3) := by decide +kernel
theorem dX0_plan_5 : decode cX0_plan 5 = .ok (.aload_n 1, 1) := by decide +kernel
theorem dX0_plan_6 : decode cX0_plan 6 = .ok (.getfield 34, 3) := by decide +kernel
theorem dX0_plan_9 : decode cX0_plan 9 = .ok (.iconst 4, 1) := by decide +kernel
theorem dX0_plan_10 : decode cX0_plan 10 = .ok (.iaload, 1) := by decide +kernel
theorem dX0_plan_11 : decode cX0_plan 11 = .ok (.invokevirtual 37, 3) := by decide +kernel
theorem dX0_plan_14 : decode cX0_plan 14 = .ok (.aload_n 0, 1) := by decide +kernel
theorem dX0_plan_15 : decode cX0_plan 15 = .ok (.getfield 9, 3) := by decide +kernel
theorem dX0_plan_18 : decode cX0_plan 18 = .ok (.istore_n 2, 1) := by decide +kernel
theorem dX0_plan_19 : decode cX0_plan 19 = .ok (.iload_n 2, 1) := by decide +kernel
theorem dX0_plan_20 : decode cX0_plan 20 = .ok (.iconst 1, 1) := by decide +kernel
theorem dX0_plan_21 : decode cX0_plan 21 = .ok (.if_icmp .lt 32, 3) := by decide +kernel
theorem dX0_plan_24 : decode cX0_plan 24 = .ok (.aload_n 0, 1) := by decide +kernel
theorem dX0_plan_25 : decode cX0_plan 25 = .ok (.iload_n 2, 1) := by decide +kernel
theorem dX0_plan_26 : decode cX0_plan 26 = .ok (.aload_n 1, 1) := by decide +kernel
theorem dX0_plan_27 : decode cX0_plan 27 = .ok (.getfield 34, 3) := by decide +kernel
theorem dX0_plan_30 : decode cX0_plan 30 = .ok (.iconst 0, 1) := by decide +kernel
theorem dX0_plan_31 : decode cX0_plan 31 = .ok (.iaload, 1) := by decide +kernel
theorem dX0_plan_32 : decode cX0_plan 32 = .ok (.aload_n 1, 1) := by decide +kernel
theorem dX0_plan_33 : decode cX0_plan 33 = .ok (.getfield 34, 3) := by decide +kernel
theorem dX0_plan_36 : decode cX0_plan 36 = .ok (.iconst 1, 1) := by decide +kernel
theorem dX0_plan_37 : decode cX0_plan 37 = .ok (.iaload, 1) := by decide +kernel
theorem dX0_plan_38 : decode cX0_plan 38 = .ok (.aload_n 1, 1) := by decide +kernel
theorem dX0_plan_39 : decode cX0_plan 39 = .ok (.getfield 34, 3) := by decide +kernel
theorem dX0_plan_42 : decode cX0_plan 42 = .ok (.iconst 3, 1) := by decide +kernel
theorem dX0_plan_43 : decode cX0_plan 43 = .ok (.iaload, 1) := by decide +kernel
theorem dX0_plan_44 : decode cX0_plan 44 = .ok (.invokevirtual 41, 3) := by decide +kernel
theorem dX0_plan_47 : decode cX0_plan 47 = .ok (.iinc 2 (-1), 3) := by decide +kernel
theorem dX0_plan_50 : decode cX0_plan 50 = .ok (.goto (-31), 3) := by decide +kernel
theorem dX0_plan_53 : decode cX0_plan 53 = .ok (.aload_n 0, 1) := by decide +kernel
theorem dX0_plan_54 : decode cX0_plan 54 = .ok (.invokevirtual 45, 3) := by decide +kernel
theorem dX0_plan_57 : decode cX0_plan 57 = .ok (.return_, 1) := by decide +kernel
theorem dX0_findNets_0 : decode cX0_findNets 0 = .ok (.iload_n 2, 1) := by decide +kernel
theorem dX0_findNets_1 : decode cX0_findNets 1 = .ok (.istore_n 3, 1) := by decide +kernel
theorem dX0_findNets_2 : decode cX0_findNets 2 = .ok (.iconst 1, 1) := by decide +kernel
theorem dX0_findNets_3 : decode cX0_findNets 3 = .ok (.istore 4, 2) := by decide +kernel
theorem dX0_findNets_5 : decode cX0_findNets 5 = .ok (.iload 4, 2) := by decide +kernel
theorem dX0_findNets_7 : decode cX0_findNets 7 = .ok (.aload_n 0, 1) := by decide +kernel
theorem dX0_findNets_8 : decode cX0_findNets 8 = .ok (.getfield 9, 3) := by decide +kernel
theorem dX0_findNets_11 : decode cX0_findNets 11 = .ok (.if_icmp .gt 38, 3) := by decide +kernel
theorem dX0_findNets_14 : decode cX0_findNets 14 = .ok (.iload_n 3, 1) := by decide +kernel
theorem dX0_findNets_15 : decode cX0_findNets 15 = .ok (.aload_n 1, 1) := by decide +kernel
theorem dX0_findNets_16 : decode cX0_findNets 16 = .ok (.iload 4, 2) := by decide +kernel
theorem dX0_findNets_18 : decode cX0_findNets 18 = .ok (.iaload, 1) := by decide +kernel
theorem dX0_findNets_19 : decode cX0_findNets 19 = .ok (.invokestatic 48, 3) := by decide +kernel
theorem dX0_findNets_22 : decode cX0_findNets 22 = .ok (.istore 5, 2) := by decide +kernel
theorem dX0_findNets_24 : decode cX0_findNets 24 = .ok (.aload_n 0, 1) := by decide +kernel
theorem dX0_findNets_25 : decode cX0_findNets 25 = .ok (.getfield 15, 3) := by decide +kernel
theorem dX0_findNets_28 : decode cX0_findNets 28 = .ok (.iload 4, 2) := by decide +kernel
theorem dX0_findNets_30 : decode cX0_findNets 30 = .ok (.aload_n 1, 1) := by decide +kernel
theorem dX0_findNets_31 : decode cX0_findNets 31 = .ok (.iload 4, 2) := by decide +kernel
theorem dX0_findNets_33 : decode cX0_findNets 33 = .ok (.iaload, 1) := by decide +kernel
theorem dX0_findNets_34 : decode cX0_findNets 34 = .ok (.iload 5, 2) := by decide +kernel
theorem dX0_findNets_36 : decode cX0_findNets 36 = .ok (.isub, 1) := by decide +kernel
theorem dX0_findNets_37 : decode cX0_findNets 37 = .ok (.iastore, 1) := by decide +kernel
theorem dX0_findNets_38 : decode cX0_findNets 38 = .ok (.iload_n 3, 1) := by decide +kernel
theorem dX0_findNets_39 : decode cX0_findNets 39 = .ok (.iload 5, 2) := by decide +kernel
theorem dX0_findNets_41 : decode cX0_findNets 41 = .ok (.isub, 1) := by decide +kernel
theorem dX0_findNets_42 : decode cX0_findNets 42 = .ok (.istore_n 3, 1) := by decide +kernel
theorem dX0_findNets_43 : decode cX0_findNets 43 = .ok (.iinc 4 1, 3) := by decide +kernel
theorem dX0_findNets_46 : decode cX0_findNets 46 = .ok (.goto (-41), 3) := by decide +kernel
theorem dX0_findNets_49 : decode cX0_findNets 49 = .ok (.return_, 1) := by decide +kernel
theorem dX0_choose_0 : decode cX0_choose 0 = .ok (.aload_n 0, 1) := by decide +kernel
theorem dX0_choose_1 : decode cX0_choose 1 = .ok (.getfield 15, 3) := by decide +kernel
theorem dX0_choose_4 : decode cX0_choose 4 = .ok (.iload_n 1, 1) := by decide +kernel
theorem dX0_choose_5 : decode cX0_choose 5 = .ok (.iaload, 1) := by decide +kernel
theorem dX0_choose_6 : decode cX0_choose 6 = .ok (.ifCond .ne 14, 3) := by decide +kernel
theorem dX0_choose_9 : decode cX0_choose 9 = .ok (.aload_n 0, 1) := by decide +kernel
theorem dX0_choose_10 : decode cX0_choose 10 = .ok (.getfield 19, 3) := by decide +kernel
theorem dX0_choose_13 : decode cX0_choose 13 = .ok (.iload_n 1, 1) := by decide +kernel
theorem dX0_choose_14 : decode cX0_choose 14 = .ok (.iconst 1, 1) := by decide +kernel
theorem dX0_choose_15 : decode cX0_choose 15 = .ok (.iadd, 1) := by decide +kernel
theorem dX0_choose_16 : decode cX0_choose 16 = .ok (.laload, 1) := by decide +kernel
theorem dX0_choose_17 : decode cX0_choose 17 = .ok (.goto 6, 3) := by decide +kernel
theorem dX0_choose_20 : decode cX0_choose 20 = .ok (.ldc2_w 56, 3) := by decide +kernel
theorem dX0_choose_23 : decode cX0_choose 23 = .ok (.lstore 5, 2) := by decide +kernel
theorem dX0_choose_25 : decode cX0_choose 25 = .ok (.iload_n 1, 1) := by decide +kernel
theorem dX0_choose_26 : decode cX0_choose 26 = .ok (.iconst 1, 1) := by decide +kernel
theorem dX0_choose_27 : decode cX0_choose 27 = .ok (.isub, 1) := by decide +kernel
theorem dX0_choose_28 : decode cX0_choose 28 = .ok (.istore 7, 2) := by decide +kernel
theorem dX0_choose_30 : decode cX0_choose 30 = .ok (.iload 4, 2) := by decide +kernel
theorem dX0_choose_32 : decode cX0_choose 32 = .ok (.ifCond .le 17, 3) := by decide +kernel
theorem dX0_choose_35 : decode cX0_choose 35 = .ok (.aload_n 0, 1) := by decide +kernel
theorem dX0_choose_36 : decode cX0_choose 36 = .ok (.getfield 9, 3) := by decide +kernel
theorem dX0_choose_39 : decode cX0_choose 39 = .ok (.iload_n 1, 1) := by decide +kernel
theorem dX0_choose_40 : decode cX0_choose 40 = .ok (.iload 4, 2) := by decide +kernel
theorem dX0_choose_42 : decode cX0_choose 42 = .ok (.iadd, 1) := by decide +kernel
theorem dX0_choose_43 : decode cX0_choose 43 = .ok (.invokestatic 48, 3) := by decide +kernel
theorem dX0_choose_46 : decode cX0_choose 46 = .ok (.goto 7, 3) := by decide +kernel
theorem dX0_choose_49 : decode cX0_choose 49 = .ok (.aload_n 0, 1) := by decide +kernel
theorem dX0_choose_50 : decode cX0_choose 50 = .ok (.getfield 9, 3) := by decide +kernel
theorem dX0_choose_53 : decode cX0_choose 53 = .ok (.istore 8, 2) := by decide +kernel
theorem dX0_choose_55 : decode cX0_choose 55 = .ok (.iload_n 2, 1) := by decide +kernel
theorem dX0_choose_56 : decode cX0_choose 56 = .ok (.i2l, 1) := by decide +kernel
theorem dX0_choose_57 : decode cX0_choose 57 = .ok (.lstore 9, 2) := by decide +kernel
theorem dX0_choose_59 : decode cX0_choose 59 = .ok (.iload_n 1, 1) := by decide +kernel
theorem dX0_choose_60 : decode cX0_choose 60 = .ok (.istore 11, 2) := by decide +kernel
theorem dX0_choose_62 : decode cX0_choose 62 = .ok (.iload 11, 2) := by decide +kernel
theorem dX0_choose_64 : decode cX0_choose 64 = .ok (.iload 8, 2) := by decide +kernel
theorem dX0_choose_66 : decode cX0_choose 66 = .ok (.if_icmp .gt 87, 3) := by decide +kernel
theorem dX0_choose_69 : decode cX0_choose 69 = .ok (.lload 9, 2) := by decide +kernel
theorem dX0_choose_71 : decode cX0_choose 71 = .ok (.iload_n 3, 1) := by decide +kernel
theorem dX0_choose_72 : decode cX0_choose 72 = .ok (.i2l, 1) := by decide +kernel
theorem dX0_choose_73 : decode cX0_choose 73 = .ok (.aload_n 0, 1) := by decide +kernel
theorem dX0_choose_74 : decode cX0_choose 74 = .ok (.getfield 15, 3) := by decide +kernel
theorem dX0_choose_77 : decode cX0_choose 77 = .ok (.iload 11, 2) := by decide +kernel
theorem dX0_choose_79 : decode cX0_choose 79 = .ok (.iaload, 1) := by decide +kernel
theorem dX0_choose_80 : decode cX0_choose 80 = .ok (.i2l, 1) := by decide +kernel
theorem dX0_choose_81 : decode cX0_choose 81 = .ok (.lmul, 1) := by decide +kernel
theorem dX0_choose_82 : decode cX0_choose 82 = .ok (.iload 11, 2) := by decide +kernel
theorem dX0_choose_84 : decode cX0_choose 84 = .ok (.iload_n 1, 1) := by decide +kernel
theorem dX0_choose_85 : decode cX0_choose 85 = .ok (.isub, 1) := by decide +kernel
theorem dX0_choose_86 : decode cX0_choose 86 = .ok (.i2l, 1) := by decide +kernel
theorem dX0_choose_87 : decode cX0_choose 87 = .ok (.lmul, 1) := by decide +kernel
theorem dX0_choose_88 : decode cX0_choose 88 = .ok (.ladd, 1) := by decide +kernel
theorem dX0_choose_89 : decode cX0_choose 89 = .ok (.lstore 9, 2) := by decide +kernel
theorem dX0_choose_91 : decode cX0_choose 91 = .ok (.lload 9, 2) := by decide +kernel
theorem dX0_choose_93 : decode cX0_choose 93 = .ok (.aload_n 0, 1) := by decide +kernel
theorem dX0_choose_94 : decode cX0_choose 94 = .ok (.getfield 19, 3) := by decide +kernel
theorem dX0_choose_97 : decode cX0_choose 97 = .ok (.iload 11, 2) := by decide +kernel
theorem dX0_choose_99 : decode cX0_choose 99 = .ok (.iconst 1, 1) := by decide +kernel
theorem dX0_choose_100 : decode cX0_choose 100 = .ok (.iadd, 1) := by decide +kernel
theorem dX0_choose_101 : decode cX0_choose 101 = .ok (.laload, 1) := by decide +kernel
theorem dX0_choose_102 : decode cX0_choose 102 = .ok (.ladd, 1) := by decide +kernel
theorem dX0_choose_103 : decode cX0_choose 103 = .ok (.lstore 12, 2) := by decide +kernel
theorem dX0_choose_105 : decode cX0_choose 105 = .ok (.lload 12, 2) := by decide +kernel
theorem dX0_choose_107 : decode cX0_choose 107 = .ok (.lload 5, 2) := by decide +kernel
theorem dX0_choose_109 : decode cX0_choose 109 = .ok (.lcmp, 1) := by decide +kernel
theorem dX0_choose_110 : decode cX0_choose 110 = .ok (.ifCond .ne 13, 3) := by decide +kernel
theorem dX0_choose_113 : decode cX0_choose 113 = .ok (.iload 7, 2) := by decide +kernel
theorem dX0_choose_115 : decode cX0_choose 115 = .ok (.iload_n 1, 1) := by decide +kernel
theorem dX0_choose_116 : decode cX0_choose 116 = .ok (.if_icmp .lt 7, 3) := by decide +kernel
theorem dX0_choose_119 : decode cX0_choose 119 = .ok (.iconst 1, 1) := by decide +kernel
theorem dX0_choose_120 : decode cX0_choose 120 = .ok (.goto 4, 3) := by decide +kernel
theorem dX0_choose_123 : decode cX0_choose 123 = .ok (.iconst 0, 1) := by decide +kernel
theorem dX0_choose_124 : decode cX0_choose 124 = .ok (.istore 14, 2) := by decide +kernel
theorem dX0_choose_126 : decode cX0_choose 126 = .ok (.lload 12, 2) := by decide +kernel
theorem dX0_choose_128 : decode cX0_choose 128 = .ok (.lload 5, 2) := by decide +kernel
theorem dX0_choose_130 : decode cX0_choose 130 = .ok (.lcmp, 1) := by decide +kernel
theorem dX0_choose_131 : decode cX0_choose 131 = .ok (.ifCond .lt 8, 3) := by decide +kernel
theorem dX0_choose_134 : decode cX0_choose 134 = .ok (.iload 14, 2) := by decide +kernel
theorem dX0_choose_136 : decode cX0_choose 136 = .ok (.ifCond .eq 11, 3) := by decide +kernel
theorem dX0_choose_139 : decode cX0_choose 139 = .ok (.lload 12, 2) := by decide +kernel
theorem dX0_choose_141 : decode cX0_choose 141 = .ok (.lstore 5, 2) := by decide +kernel
theorem dX0_choose_143 : decode cX0_choose 143 = .ok (.iload 11, 2) := by decide +kernel
theorem dX0_choose_145 : decode cX0_choose 145 = .ok (.istore 7, 2) := by decide +kernel
theorem dX0_choose_147 : decode cX0_choose 147 = .ok (.iinc 11 1, 3) := by decide +kernel
theorem dX0_choose_150 : decode cX0_choose 150 = .ok (.goto (-88), 3) := by decide +kernel
theorem dX0_choose_153 : decode cX0_choose 153 = .ok (.aload_n 0, 1) := by decide +kernel
theorem dX0_choose_154 : decode cX0_choose 154 = .ok (.getfield 19, 3) := by decide +kernel
theorem dX0_choose_157 : decode cX0_choose 157 = .ok (.iload_n 1, 1) := by decide +kernel
theorem dX0_choose_158 : decode cX0_choose 158 = .ok (.lload 5, 2) := by decide +kernel
theorem dX0_choose_160 : decode cX0_choose 160 = .ok (.lastore, 1) := by decide +kernel
theorem dX0_choose_161 : decode cX0_choose 161 = .ok (.aload_n 0, 1) := by decide +kernel
theorem dX0_choose_162 : decode cX0_choose 162 = .ok (.getfield 23, 3) := by decide +kernel
theorem dX0_choose_165 : decode cX0_choose 165 = .ok (.iload_n 1, 1) := by decide +kernel
theorem dX0_choose_166 : decode cX0_choose 166 = .ok (.iload 7, 2) := by decide +kernel
theorem dX0_choose_168 : decode cX0_choose 168 = .ok (.iastore, 1) := by decide +kernel
theorem dX0_choose_169 : decode cX0_choose 169 = .ok (.return_, 1) := by decide +kernel
set_option maxRecDepth 20000 in
theorem ggX0_followChoices_X0_sumOfNets : GoodIn wsX0_followChoices wsX0_sumOfNets := goodIn_r _ [12, 13, 14, 15, 16, 17, 18] (by decide +kernel) (by decide +kernel)
set_option maxRecDepth 20000 in
theorem gX0_followChoices_X0_sumOfNets : GoodIn wsX0_followChoices (wsV RX0 58 RX0 yX0_sumOfNets wsX0_sumOfNets) := goodIn_app (goodIn_of _ (by decide +kernel)) ggX0_followChoices_X0_sumOfNets
theorem dX0_followChoices_0 : decode cX0_followChoices 0 = .ok (.iconst 1, 1) := by decide +kernel
theorem dX0_followChoices_1 : decode cX0_followChoices 1 = .ok (.istore_n 1, 1) := by decide +kernel
theorem dX0_followChoices_2 : decode cX0_followChoices 2 = .ok (.iconst 1, 1) := by decide +kernel
theorem dX0_followChoices_3 : decode cX0_followChoices 3 = .ok (.istore_n 2, 1) := by decide +kernel
theorem dX0_followChoices_4 : decode cX0_followChoices 4 = .ok (.iload_n 2, 1) := by decide +kernel
theorem dX0_followChoices_5 : decode cX0_followChoices 5 = .ok (.aload_n 0, 1) := by decide +kernel
theorem dX0_followChoices_6 : decode cX0_followChoices 6 = .ok (.getfield 9, 3) := by decide +kernel
theorem dX0_followChoices_9 : decode cX0_followChoices 9 = .ok (.if_icmp .gt 51, 3) := by decide +kernel
theorem dX0_followChoices_12 : decode cX0_followChoices 12 = .ok (.aload_n 0, 1) := by decide +kernel
theorem dX0_followChoices_13 : decode cX0_followChoices 13 = .ok (.getfield 26, 3) := by decide +kernel
theorem dX0_followChoices_16 : decode cX0_followChoices 16 = .ok (.iload_n 2, 1) := by decide +kernel
theorem dX0_followChoices_17 : decode cX0_followChoices 17 = .ok (.iconst 0, 1) := by decide +kernel
theorem dX0_followChoices_18 : decode cX0_followChoices 18 = .ok (.iastore, 1) := by decide +kernel
theorem dX0_followChoices_19 : decode cX0_followChoices 19 = .ok (.iload_n 2, 1) := by decide +kernel
theorem dX0_followChoices_20 : decode cX0_followChoices 20 = .ok (.iload_n 1, 1) := by decide +kernel
theorem dX0_followChoices_21 : decode cX0_followChoices 21 = .ok (.if_icmp .ne 33, 3) := by decide +kernel
theorem dX0_followChoices_24 : decode cX0_followChoices 24 = .ok (.aload_n 0, 1) := by decide +kernel
theorem dX0_followChoices_25 : decode cX0_followChoices 25 = .ok (.getfield 26, 3) := by decide +kernel
theorem dX0_followChoices_28 : decode cX0_followChoices 28 = .ok (.iload_n 2, 1) := by decide +kernel
theorem dX0_followChoices_29 : decode cX0_followChoices 29 = .ok (.aload_n 0, 1) := by decide +kernel
theorem dX0_followChoices_30 : decode cX0_followChoices 30 = .ok (.iload_n 2, 1) := by decide +kernel
theorem dX0_followChoices_31 : decode cX0_followChoices 31 = .ok (.aload_n 0, 1) := by decide +kernel
theorem dX0_followChoices_32 : decode cX0_followChoices 32 = .ok (.getfield 23, 3) := by decide +kernel
theorem dX0_followChoices_35 : decode cX0_followChoices 35 = .ok (.iload_n 2, 1) := by decide +kernel
theorem dX0_followChoices_36 : decode cX0_followChoices 36 = .ok (.iaload, 1) := by decide +kernel
theorem dX0_followChoices_37 : decode cX0_followChoices 37 = .ok (.invokevirtual 58, 3) := by decide +kernel
theorem dX0_followChoices_40 : decode cX0_followChoices 40 = .ok (.iastore, 1) := by decide +kernel
theorem dX0_followChoices_41 : decode cX0_followChoices 41 = .ok (.iload_n 2, 1) := by decide +kernel
theorem dX0_followChoices_42 : decode cX0_followChoices 42 = .ok (.aload_n 0, 1) := by decide +kernel
theorem dX0_followChoices_43 : decode cX0_followChoices 43 = .ok (.getfield 23, 3) := by decide +kernel
theorem dX0_followChoices_46 : decode cX0_followChoices 46 = .ok (.iload_n 2, 1) := by decide +kernel
theorem dX0_followChoices_47 : decode cX0_followChoices 47 = .ok (.iaload, 1) := by decide +kernel
theorem dX0_followChoices_48 : decode cX0_followChoices 48 = .ok (.invokestatic 61, 3) := by decide +kernel
theorem dX0_followChoices_51 : decode cX0_followChoices 51 = .ok (.iconst 1, 1) := by decide +kernel
theorem dX0_followChoices_52 : decode cX0_followChoices 52 = .ok (.iadd, 1) := by decide +kernel
theorem dX0_followChoices_53 : decode cX0_followChoices 53 = .ok (.istore_n 1, 1) := by decide +kernel
theorem dX0_followChoices_54 : decode cX0_followChoices 54 = .ok (.iinc 2 1, 3) := by decide +kernel
theorem dX0_followChoices_57 : decode cX0_followChoices 57 = .ok (.goto (-53), 3) := by decide +kernel
theorem dX0_followChoices_60 : decode cX0_followChoices 60 = .ok (.return_, 1) := by decide +kernel
theorem dX0_sumOfNets_0 : decode cX0_sumOfNets 0 = .ok (.iconst 0, 1) := by decide +kernel
theorem dX0_sumOfNets_1 : decode cX0_sumOfNets 1 = .ok (.istore_n 3, 1) := by decide +kernel
theorem dX0_sumOfNets_2 : decode cX0_sumOfNets 2 = .ok (.iload_n 1, 1) := by decide +kernel
theorem dX0_sumOfNets_3 : decode cX0_sumOfNets 3 = .ok (.istore 4, 2) := by decide +kernel
theorem dX0_sumOfNets_5 : decode cX0_sumOfNets 5 = .ok (.iload 4, 2) := by decide +kernel
theorem dX0_sumOfNets_7 : decode cX0_sumOfNets 7 = .ok (.iload_n 2, 1) := by decide +kernel
theorem dX0_sumOfNets_8 : decode cX0_sumOfNets 8 = .ok (.if_icmp .gt 19, 3) := by decide +kernel
theorem dX0_sumOfNets_11 : decode cX0_sumOfNets 11 = .ok (.iload_n 3, 1) := by decide +kernel
theorem dX0_sumOfNets_12 : decode cX0_sumOfNets 12 = .ok (.aload_n 0, 1) := by decide +kernel
theorem dX0_sumOfNets_13 : decode cX0_sumOfNets 13 = .ok (.getfield 15, 3) := by decide +kernel
theorem dX0_sumOfNets_16 : decode cX0_sumOfNets 16 = .ok (.iload 4, 2) := by decide +kernel
theorem dX0_sumOfNets_18 : decode cX0_sumOfNets 18 = .ok (.iaload, 1) := by decide +kernel
theorem dX0_sumOfNets_19 : decode cX0_sumOfNets 19 = .ok (.iadd, 1) := by decide +kernel
theorem dX0_sumOfNets_20 : decode cX0_sumOfNets 20 = .ok (.istore_n 3, 1) := by decide +kernel
theorem dX0_sumOfNets_21 : decode cX0_sumOfNets 21 = .ok (.iinc 4 1, 3) := by decide +kernel
theorem dX0_sumOfNets_24 : decode cX0_sumOfNets 24 = .ok (.goto (-19), 3) := by decide +kernel
theorem dX0_sumOfNets_27 : decode cX0_sumOfNets 27 = .ok (.iload_n 3, 1) := by decide +kernel
theorem dX0_sumOfNets_28 : decode cX0_sumOfNets 28 = .ok (.ireturn, 1) := by decide +kernel
theorem dX1_init_0 : decode cX1_init 0 = .ok (.aload_n 0, 1) := by decide +kernel
theorem dX1_init_1 : decode cX1_init 1 = .ok (.invokespecial 3, 3) := by decide +kernel
theorem dX1_init_4 : decode cX1_init 4 = .ok (.aload_n 0, 1) := by decide +kernel
theorem dX1_init_5 : decode cX1_init 5 = .ok (.iconst 0, 1) := by decide +kernel
theorem dX1_init_6 : decode cX1_init 6 = .ok (.putfield 9, 3) := by decide +kernel
theorem dX1_init_9 : decode cX1_init 9 = .ok (.aload_n 0, 1) := by decide +kernel
theorem dX1_init_10 : decode cX1_init 10 = .ok (.iload_n 1, 1) := by decide +kernel
theorem dX1_init_11 : decode cX1_init 11 = .ok (.bipush 13, 2) := by decide +kernel
theorem dX1_init_13 : decode cX1_init 13 = .ok (.imul, 1) := by decide +kernel
theorem dX1_init_14 : decode cX1_init 14 = .ok (.iconst 4, 1) := by decide +kernel
theorem dX1_init_15 : decode cX1_init 15 = .ok (.imul, 1) := by decide +kernel
theorem dX1_init_16 : decode cX1_init 16 = .ok (.newarray .int, 2) := by decide +kernel
theorem dX1_init_18 : decode cX1_init 18 = .ok (.putfield 15, 3) := by decide +kernel
theorem dX1_init_21 : decode cX1_init 21 = .ok (.return_, 1) := by decide +kernel
theorem dX1_put_0 : decode cX1_put 0 = .ok (.aload_n 0, 1) := by decide +kernel
theorem dX1_put_1 : decode cX1_put 1 = .ok (.getfield 9, 3) := by decide +kernel
theorem dX1_put_4 : decode cX1_put 4 = .ok (.iconst 4, 1) := by decide +kernel
theorem dX1_put_5 : decode cX1_put 5 = .ok (.imul, 1) := by decide +kernel
theorem dX1_put_6 : decode cX1_put 6 = .ok (.istore 5, 2) := by decide +kernel
theorem dX1_put_8 : decode cX1_put 8 = .ok (.aload_n 0, 1) := by decide +kernel
theorem dX1_put_9 : decode cX1_put 9 = .ok (.getfield 15, 3) := by decide +kernel
theorem dX1_put_12 : decode cX1_put 12 = .ok (.iload 5, 2) := by decide +kernel
theorem dX1_put_14 : decode cX1_put 14 = .ok (.iload_n 1, 1) := by decide +kernel
theorem dX1_put_15 : decode cX1_put 15 = .ok (.iastore, 1) := by decide +kernel
theorem dX1_put_16 : decode cX1_put 16 = .ok (.aload_n 0, 1) := by decide +kernel
theorem dX1_put_17 : decode cX1_put 17 = .ok (.getfield 15, 3) := by decide +kernel
theorem dX1_put_20 : decode cX1_put 20 = .ok (.iload 5, 2) := by decide +kernel
theorem dX1_put_22 : decode cX1_put 22 = .ok (.iconst 1, 1) := by decide +kernel
theorem dX1_put_23 : decode cX1_put 23 = .ok (.iadd, 1) := by decide +kernel
theorem dX1_put_24 : decode cX1_put 24 = .ok (.iload_n 2, 1) := by decide +kernel
theorem dX1_put_25 : decode cX1_put 25 = .ok (.iastore, 1) := by decide +kernel
theorem dX1_put_26 : decode cX1_put 26 = .ok (.aload_n 0, 1) := by decide +kernel
theorem dX1_put_27 : decode cX1_put 27 = .ok (.getfield 15, 3) := by decide +kernel
theorem dX1_put_30 : decode cX1_put 30 = .ok (.iload 5, 2) := by decide +kernel
theorem dX1_put_32 : decode cX1_put 32 = .ok (.iconst 2, 1) := by decide +kernel
theorem dX1_put_33 : decode cX1_put 33 = .ok (.iadd, 1) := by decide +kernel
theorem dX1_put_34 : decode cX1_put 34 = .ok (.iload_n 3, 1) := by decide +kernel
theorem dX1_put_35 : decode cX1_put 35 = .ok (.iastore, 1) := by decide +kernel
theorem dX1_put_36 : decode cX1_put 36 = .ok (.aload_n 0, 1) := by decide +kernel
theorem dX1_put_37 : decode cX1_put 37 = .ok (.getfield 15, 3) := by decide +kernel
theorem dX1_put_40 : decode cX1_put 40 = .ok (.iload 5, 2) := by decide +kernel
theorem dX1_put_42 : decode cX1_put 42 = .ok (.iconst 3, 1) := by decide +kernel
theorem dX1_put_43 : decode cX1_put 43 = .ok (.iadd, 1) := by decide +kernel
theorem dX1_put_44 : decode cX1_put 44 = .ok (.iload 4, 2) := by decide +kernel
theorem dX1_put_46 : decode cX1_put 46 = .ok (.iastore, 1) := by decide +kernel
theorem dX1_put_47 : decode cX1_put 47 = .ok (.aload_n 0, 1) := by decide +kernel
theorem dX1_put_48 : decode cX1_put 48 = .ok (.dup, 1) := by decide +kernel
theorem dX1_put_49 : decode cX1_put 49 = .ok (.getfield 9, 3) := by decide +kernel
theorem dX1_put_52 : decode cX1_put 52 = .ok (.iconst 1, 1) := by decide +kernel
theorem dX1_put_53 : decode cX1_put 53 = .ok (.iadd, 1) := by decide +kernel
theorem dX1_put_54 : decode cX1_put 54 = .ok (.putfield 9, 3) := by decide +kernel
theorem dX1_put_57 : decode cX1_put 57 = .ok (.return_, 1) := by decide +kernel
theorem dX1_cell_0 : decode cX1_cell 0 = .ok (.aload_n 0, 1) := by decide +kernel
theorem dX1_cell_1 : decode cX1_cell 1 = .ok (.getfield 15, 3) := by decide +kernel
theorem dX1_cell_4 : decode cX1_cell 4 = .ok (.iload_n 1, 1) := by decide +kernel
theorem dX1_cell_5 : decode cX1_cell 5 = .ok (.iconst 4, 1) := by decide +kernel
theorem dX1_cell_6 : decode cX1_cell 6 = .ok (.imul, 1) := by decide +kernel
theorem dX1_cell_7 : decode cX1_cell 7 = .ok (.iload_n 2, 1) := by decide +kernel
theorem dX1_cell_8 : decode cX1_cell 8 = .ok (.iadd, 1) := by decide +kernel
theorem dX1_cell_9 : decode cX1_cell 9 = .ok (.iaload, 1) := by decide +kernel
theorem dX1_cell_10 : decode cX1_cell 10 = .ok (.ireturn, 1) := by decide +kernel
set_option maxRecDepth 20000 in
theorem ggX2_init_X4_init : GoodIn wsX2_init wsX4_init := goodIn_r _ [15, 16, 2, 3, 4, 17, 18, 19, 25, 26, 27] (by decide +kernel) (by decide +kernel)
set_option maxRecDepth 20000 in
theorem gX2_init_X4_init : GoodIn wsX2_init (wsX4_init) := ggX2_init_X4_init
theorem dX2_init_0 : decode cX2_init 0 = .ok (.aload_n 0, 1) := by decide +kernel
theorem dX2_init_1 : decode cX2_init 1 = .ok (.invokespecial 3, 3) := by decide +kernel
theorem dX2_init_4 : decode cX2_init 4 = .ok (.aload_n 0, 1) := by decide +kernel
theorem dX2_init_5 : decode cX2_init 5 = .ok (.bipush 8, 2) := by decide +kernel
theorem dX2_init_7 : decode cX2_init 7 = .ok (.newarray .int, 2) := by decide +kernel
theorem dX2_init_9 : decode cX2_init 9 = .ok (.putfield 9, 3) := by decide +kernel
theorem dX2_init_12 : decode cX2_init 12 = .ok (.aload_n 0, 1) := by decide +kernel
theorem dX2_init_13 : decode cX2_init 13 = .ok (.iload_n 1, 1) := by decide +kernel
theorem dX2_init_14 : decode cX2_init 14 = .ok (.iconst 1, 1) := by decide +kernel
theorem dX2_init_15 : decode cX2_init 15 = .ok (.iadd, 1) := by decide +kernel
theorem dX2_init_16 : decode cX2_init 16 = .ok (.newarray .int, 2) := by decide +kernel
theorem dX2_init_18 : decode cX2_init 18 = .ok (.putfield 15, 3) := by decide +kernel
theorem dX2_init_21 : decode cX2_init 21 = .ok (.aload_n 0, 1) := by decide +kernel
theorem dX2_init_22 : decode cX2_init 22 = .ok (.iload_n 1, 1) := by decide +kernel
theorem dX2_init_23 : decode cX2_init 23 = .ok (.iconst 1, 1) := by decide +kernel
theorem dX2_init_24 : decode cX2_init 24 = .ok (.iadd, 1) := by decide +kernel
theorem dX2_init_25 : decode cX2_init 25 = .ok (.newarray .int, 2) := by decide +kernel
theorem dX2_init_27 : decode cX2_init 27 = .ok (.putfield 18, 3) := by decide +kernel
theorem dX2_init_30 : decode cX2_init 30 = .ok (.aload_n 0, 1) := by decide +kernel
theorem dX2_init_31 : decode cX2_init 31 = .ok (.bipush 6, 2) := by decide +kernel
theorem dX2_init_33 : decode cX2_init 33 = .ok (.newarray .int, 2) := by decide +kernel
theorem dX2_init_35 : decode cX2_init 35 = .ok (.putfield 21, 3) := by decide +kernel
theorem dX2_init_38 : decode cX2_init 38 = .ok (.aload_n 0, 1) := by decide +kernel
theorem dX2_init_39 : decode cX2_init 39 = .ok (.new 24, 3) := by decide +kernel
theorem dX2_init_42 : decode cX2_init 42 = .ok (.dup, 1) := by decide +kernel
theorem dX2_init_43 : decode cX2_init 43 = .ok (.iload_n 1, 1) := by decide +kernel
theorem dX2_init_44 : decode cX2_init 44 = .ok (.invokespecial 26, 3) := by decide +kernel
theorem dX2_init_47 : decode cX2_init 47 = .ok (.putfield 29, 3) := by decide +kernel
theorem dX2_init_50 : decode cX2_init 50 = .ok (.return_, 1) := by decide +kernel
theorem dX2_wholes_0 : decode cX2_wholes 0 = .ok (.iconst 0, 1) := by decide +kernel
theorem dX2_wholes_1 : decode cX2_wholes 1 = .ok (.istore_n 1, 1) := by decide +kernel
theorem dX2_wholes_2 : decode cX2_wholes 2 = .ok (.iconst 0, 1) := by decide +kernel
theorem dX2_wholes_3 : decode cX2_wholes 3 = .ok (.istore_n 2, 1) := by decide +kernel
theorem dX2_wholes_4 : decode cX2_wholes 4 = .ok (.iload_n 2, 1) := by decide +kernel
theorem dX2_wholes_5 : decode cX2_wholes 5 = .ok (.bipush 6, 2) := by decide +kernel
theorem dX2_wholes_7 : decode cX2_wholes 7 = .ok (.if_icmp .ge 24, 3) := by decide +kernel
theorem dX2_wholes_10 : decode cX2_wholes 10 = .ok (.aload_n 0, 1) := by decide +kernel
theorem dX2_wholes_11 : decode cX2_wholes 11 = .ok (.getfield 21, 3) := by decide +kernel
theorem dX2_wholes_14 : decode cX2_wholes 14 = .ok (.iload_n 2, 1) := by decide +kernel
theorem dX2_wholes_15 : decode cX2_wholes 15 = .ok (.iaload, 1) := by decide +kernel
theorem dX2_wholes_16 : decode cX2_wholes 16 = .ok (.ifCond .le 9, 3) := by decide +kernel
theorem dX2_wholes_19 : decode cX2_wholes 19 = .ok (.iload_n 1, 1) := by decide +kernel
theorem dX2_wholes_20 : decode cX2_wholes 20 = .ok (.iconst 1, 1) := by decide +kernel
theorem dX2_wholes_21 : decode cX2_wholes 21 = .ok (.iload_n 2, 1) := by decide +kernel
theorem dX2_wholes_22 : decode cX2_wholes 22 = .ok (.ishl, 1) := by decide +kernel
theorem dX2_wholes_23 : decode cX2_wholes 23 = .ok (.ior, 1) := by decide +kernel
theorem dX2_wholes_24 : decode cX2_wholes 24 = .ok (.istore_n 1, 1) := by decide +kernel
theorem dX2_wholes_25 : decode cX2_wholes 25 = .ok (.iinc 2 1, 3) := by decide +kernel
theorem dX2_wholes_28 : decode cX2_wholes 28 = .ok (.goto (-24), 3) := by decide +kernel
theorem dX2_wholes_31 : decode cX2_wholes 31 = .ok (.iload_n 1, 1) := by decide +kernel
theorem dX2_wholes_32 : decode cX2_wholes 32 = .ok (.ireturn, 1) := by decide +kernel
theorem dX2_coming_0 : decode cX2_coming 0 = .ok (.iload_n 1, 1) := by decide +kernel
theorem dX2_coming_1 : decode cX2_coming 1 = .ok (.aload_n 0, 1) := by decide +kernel
theorem dX2_coming_2 : decode cX2_coming 2 = .ok (.getfield 9, 3) := by decide +kernel
theorem dX2_coming_5 : decode cX2_coming 5 = .ok (.bipush 7, 2) := by decide +kernel
theorem dX2_coming_7 : decode cX2_coming 7 = .ok (.iaload, 1) := by decide +kernel
theorem dX2_coming_8 : decode cX2_coming 8 = .ok (.isub, 1) := by decide +kernel
theorem dX2_coming_9 : decode cX2_coming 9 = .ok (.istore_n 2, 1) := by decide +kernel
theorem dX2_coming_10 : decode cX2_coming 10 = .ok (.iload_n 2, 1) := by decide +kernel
theorem dX2_coming_11 : decode cX2_coming 11 = .ok (.iconst 1, 1) := by decide +kernel
theorem dX2_coming_12 : decode cX2_coming 12 = .ok (.if_icmp .lt 12, 3) := by decide +kernel
theorem dX2_coming_15 : decode cX2_coming 15 = .ok (.aload_n 0, 1) := by decide +kernel
theorem dX2_coming_16 : decode cX2_coming 16 = .ok (.getfield 18, 3) := by decide +kernel
theorem dX2_coming_19 : decode cX2_coming 19 = .ok (.iload_n 2, 1) := by decide +kernel
theorem dX2_coming_20 : decode cX2_coming 20 = .ok (.iaload, 1) := by decide +kernel
theorem dX2_coming_21 : decode cX2_coming 21 = .ok (.goto 4, 3) := by decide +kernel
theorem dX2_coming_24 : decode cX2_coming 24 = .ok (.iconst 0, 1) := by decide +kernel
theorem dX2_coming_25 : decode cX2_coming 25 = .ok (.ireturn, 1) := by decide +kernel
theorem dX3_init_0 : decode cX3_init 0 = .ok (.aload_n 0, 1) := by decide +kernel
theorem dX3_init_1 : decode cX3_init 1 = .ok (.invokespecial 3, 3) := by decide +kernel
theorem dX3_init_4 : decode cX3_init 4 = .ok (.aload_n 0, 1) := by decide +kernel
theorem dX3_init_5 : decode cX3_init 5 = .ok (.iload_n 1, 1) := by decide +kernel
theorem dX3_init_6 : decode cX3_init 6 = .ok (.iconst 1, 1) := by decide +kernel
theorem dX3_init_7 : decode cX3_init 7 = .ok (.iadd, 1) := by decide +kernel
theorem dX3_init_8 : decode cX3_init 8 = .ok (.newarray .int, 2) := by decide +kernel
theorem dX3_init_10 : decode cX3_init 10 = .ok (.putfield 9, 3) := by decide +kernel
theorem dX3_init_13 : decode cX3_init 13 = .ok (.aload_n 0, 1) := by decide +kernel
theorem dX3_init_14 : decode cX3_init 14 = .ok (.iload_n 1, 1) := by decide +kernel
theorem dX3_init_15 : decode cX3_init 15 = .ok (.iconst 1, 1) := by decide +kernel
theorem dX3_init_16 : decode cX3_init 16 = .ok (.iadd, 1) := by decide +kernel
theorem dX3_init_17 : decode cX3_init 17 = .ok (.newarray .int, 2) := by decide +kernel
theorem dX3_init_19 : decode cX3_init 19 = .ok (.putfield 15, 3) := by decide +kernel
theorem dX3_init_22 : decode cX3_init 22 = .ok (.aload_n 0, 1) := by decide +kernel
theorem dX3_init_23 : decode cX3_init 23 = .ok (.getfield 15, 3) := by decide +kernel
theorem dX3_init_26 : decode cX3_init 26 = .ok (.iconst 0, 1) := by decide +kernel
theorem dX3_init_27 : decode cX3_init 27 = .ok (.bipush (-3), 2) := by decide +kernel
theorem dX3_init_29 : decode cX3_init 29 = .ok (.iastore, 1) := by decide +kernel
theorem dX3_init_30 : decode cX3_init 30 = .ok (.return_, 1) := by decide +kernel
theorem dX3_follow_0 : decode cX3_follow 0 = .ok (.iconst 1, 1) := by decide +kernel
theorem dX3_follow_1 : decode cX3_follow 1 = .ok (.istore_n 3, 1) := by decide +kernel
theorem dX3_follow_2 : decode cX3_follow 2 = .ok (.iload_n 3, 1) := by decide +kernel
theorem dX3_follow_3 : decode cX3_follow 3 = .ok (.aload_n 0, 1) := by decide +kernel
theorem dX3_follow_4 : decode cX3_follow 4 = .ok (.getfield 15, 3) := by decide +kernel
theorem dX3_follow_7 : decode cX3_follow 7 = .ok (.arraylength, 1) := by decide +kernel
theorem dX3_follow_8 : decode cX3_follow 8 = .ok (.if_icmp .ge 89, 3) := by decide +kernel
theorem dX3_follow_11 : decode cX3_follow 11 = .ok (.aload_n 0, 1) := by decide +kernel
theorem dX3_follow_12 : decode cX3_follow 12 = .ok (.getfield 15, 3) := by decide +kernel
theorem dX3_follow_15 : decode cX3_follow 15 = .ok (.iload_n 3, 1) := by decide +kernel
theorem dX3_follow_16 : decode cX3_follow 16 = .ok (.iconst 1, 1) := by decide +kernel
theorem dX3_follow_17 : decode cX3_follow 17 = .ok (.isub, 1) := by decide +kernel
theorem dX3_follow_18 : decode cX3_follow 18 = .ok (.iaload, 1) := by decide +kernel
theorem dX3_follow_19 : decode cX3_follow 19 = .ok (.istore 4, 2) := by decide +kernel
theorem dX3_follow_21 : decode cX3_follow 21 = .ok (.aload_n 0, 1) := by decide +kernel
theorem dX3_follow_22 : decode cX3_follow 22 = .ok (.getfield 9, 3) := by decide +kernel
theorem dX3_follow_25 : decode cX3_follow 25 = .ok (.iload_n 3, 1) := by decide +kernel
theorem dX3_follow_26 : decode cX3_follow 26 = .ok (.iconst 0, 1) := by decide +kernel
theorem dX3_follow_27 : decode cX3_follow 27 = .ok (.iastore, 1) := by decide +kernel
theorem dX3_follow_28 : decode cX3_follow 28 = .ok (.aload_n 0, 1) := by decide +kernel
theorem dX3_follow_29 : decode cX3_follow 29 = .ok (.getfield 15, 3) := by decide +kernel
theorem dX3_follow_32 : decode cX3_follow 32 = .ok (.iload_n 3, 1) := by decide +kernel
theorem dX3_follow_33 : decode cX3_follow 33 = .ok (.iload 4, 2) := by decide +kernel
theorem dX3_follow_35 : decode cX3_follow 35 = .ok (.iastore, 1) := by decide +kernel
theorem dX3_follow_36 : decode cX3_follow 36 = .ok (.iconst 0, 1) := by decide +kernel
theorem dX3_follow_37 : decode cX3_follow 37 = .ok (.istore 5, 2) := by decide +kernel
theorem dX3_follow_39 : decode cX3_follow 39 = .ok (.iload 5, 2) := by decide +kernel
theorem dX3_follow_41 : decode cX3_follow 41 = .ok (.iload_n 2, 1) := by decide +kernel
theorem dX3_follow_42 : decode cX3_follow 42 = .ok (.if_icmp .ge 49, 3) := by decide +kernel
theorem dX3_follow_45 : decode cX3_follow 45 = .ok (.iload 5, 2) := by decide +kernel
theorem dX3_follow_47 : decode cX3_follow 47 = .ok (.iload 4, 2) := by decide +kernel
theorem dX3_follow_49 : decode cX3_follow 49 = .ok (.if_icmp .eq 36, 3) := by decide +kernel
theorem dX3_follow_52 : decode cX3_follow 52 = .ok (.aload_n 1, 1) := by decide +kernel
theorem dX3_follow_53 : decode cX3_follow 53 = .ok (.iload 5, 2) := by decide +kernel
theorem dX3_follow_55 : decode cX3_follow 55 = .ok (.aaload, 1) := by decide +kernel
theorem dX3_follow_56 : decode cX3_follow 56 = .ok (.getfield 18, 3) := by decide +kernel
theorem dX3_follow_59 : decode cX3_follow 59 = .ok (.iload_n 3, 1) := by decide +kernel
theorem dX3_follow_60 : decode cX3_follow 60 = .ok (.iaload, 1) := by decide +kernel
theorem dX3_follow_61 : decode cX3_follow 61 = .ok (.ifCond .le 24, 3) := by decide +kernel
theorem dX3_follow_64 : decode cX3_follow 64 = .ok (.aload_n 0, 1) := by decide +kernel
theorem dX3_follow_65 : decode cX3_follow 65 = .ok (.getfield 9, 3) := by decide +kernel
theorem dX3_follow_68 : decode cX3_follow 68 = .ok (.iload_n 3, 1) := by decide +kernel
theorem dX3_follow_69 : decode cX3_follow 69 = .ok (.dup2, 1) := by decide +kernel
theorem dX3_follow_70 : decode cX3_follow 70 = .ok (.iaload, 1) := by decide +kernel
theorem dX3_follow_71 : decode cX3_follow 71 = .ok (.iconst 1, 1) := by decide +kernel
theorem dX3_follow_72 : decode cX3_follow 72 = .ok (.iload 5, 2) := by decide +kernel
theorem dX3_follow_74 : decode cX3_follow 74 = .ok (.ishl, 1) := by decide +kernel
theorem dX3_follow_75 : decode cX3_follow 75 = .ok (.ior, 1) := by decide +kernel
theorem dX3_follow_76 : decode cX3_follow 76 = .ok (.iastore, 1) := by decide +kernel
theorem dX3_follow_77 : decode cX3_follow 77 = .ok (.aload_n 0, 1) := by decide +kernel
theorem dX3_follow_78 : decode cX3_follow 78 = .ok (.getfield 15, 3) := by decide +kernel
theorem dX3_follow_81 : decode cX3_follow 81 = .ok (.iload_n 3, 1) := by decide +kernel
theorem dX3_follow_82 : decode cX3_follow 82 = .ok (.iload 5, 2) := by decide +kernel
theorem dX3_follow_84 : decode cX3_follow 84 = .ok (.iastore, 1) := by decide +kernel
theorem dX3_follow_85 : decode cX3_follow 85 = .ok (.iinc 5 1, 3) := by decide +kernel
theorem dX3_follow_88 : decode cX3_follow 88 = .ok (.goto (-49), 3) := by decide +kernel
theorem dX3_follow_91 : decode cX3_follow 91 = .ok (.iinc 3 1, 3) := by decide +kernel
theorem dX3_follow_94 : decode cX3_follow 94 = .ok (.goto (-92), 3) := by decide +kernel
theorem dX3_follow_97 : decode cX3_follow 97 = .ok (.return_, 1) := by decide +kernel
theorem dX3_setsUp_0 : decode cX3_setsUp 0 = .ok (.aload_n 0, 1) := by decide +kernel
theorem dX3_setsUp_1 : decode cX3_setsUp 1 = .ok (.getfield 9, 3) := by decide +kernel
theorem dX3_setsUp_4 : decode cX3_setsUp 4 = .ok (.iload_n 2, 1) := by decide +kernel
theorem dX3_setsUp_5 : decode cX3_setsUp 5 = .ok (.iaload, 1) := by decide +kernel
theorem dX3_setsUp_6 : decode cX3_setsUp 6 = .ok (.iconst 1, 1) := by decide +kernel
theorem dX3_setsUp_7 : decode cX3_setsUp 7 = .ok (.iload_n 1, 1) := by decide +kernel
theorem dX3_setsUp_8 : decode cX3_setsUp 8 = .ok (.ishl, 1) := by decide +kernel
theorem dX3_setsUp_9 : decode cX3_setsUp 9 = .ok (.iand, 1) := by decide +kernel
theorem dX3_setsUp_10 : decode cX3_setsUp 10 = .ok (.ifCond .eq 7, 3) := by decide +kernel
theorem dX3_setsUp_13 : decode cX3_setsUp 13 = .ok (.iconst 1, 1) := by decide +kernel
theorem dX3_setsUp_14 : decode cX3_setsUp 14 = .ok (.goto 4, 3) := by decide +kernel
theorem dX3_setsUp_17 : decode cX3_setsUp 17 = .ok (.iconst 0, 1) := by decide +kernel
theorem dX3_setsUp_18 : decode cX3_setsUp 18 = .ok (.ireturn, 1) := by decide +kernel
theorem dX4_init_0 : decode cX4_init 0 = .ok (.aload_n 0, 1) := by decide +kernel
theorem dX4_init_1 : decode cX4_init 1 = .ok (.invokespecial 1, 3) := by decide +kernel
theorem dX4_init_4 : decode cX4_init 4 = .ok (.aload_n 0, 1) := by decide +kernel
theorem dX4_init_5 : decode cX4_init 5 = .ok (.iload_n 1, 1) := by decide +kernel
theorem dX4_init_6 : decode cX4_init 6 = .ok (.iconst 1, 1) := by decide +kernel
theorem dX4_init_7 : decode cX4_init 7 = .ok (.iadd, 1) := by decide +kernel
theorem dX4_init_8 : decode cX4_init 8 = .ok (.newarray .int, 2) := by decide +kernel
theorem dX4_init_10 : decode cX4_init 10 = .ok (.putfield 7, 3) := by decide +kernel
theorem dX4_init_13 : decode cX4_init 13 = .ok (.aload_n 0, 1) := by decide +kernel
theorem dX4_init_14 : decode cX4_init 14 = .ok (.iload_n 1, 1) := by decide +kernel
theorem dX4_init_15 : decode cX4_init 15 = .ok (.iconst 1, 1) := by decide +kernel
theorem dX4_init_16 : decode cX4_init 16 = .ok (.iadd, 1) := by decide +kernel
theorem dX4_init_17 : decode cX4_init 17 = .ok (.newarray .int, 2) := by decide +kernel
theorem dX4_init_19 : decode cX4_init 19 = .ok (.putfield 13, 3) := by decide +kernel
theorem dX4_init_22 : decode cX4_init 22 = .ok (.aload_n 0, 1) := by decide +kernel
theorem dX4_init_23 : decode cX4_init 23 = .ok (.iload_n 1, 1) := by decide +kernel
theorem dX4_init_24 : decode cX4_init 24 = .ok (.iconst 1, 1) := by decide +kernel
theorem dX4_init_25 : decode cX4_init 25 = .ok (.iadd, 1) := by decide +kernel
theorem dX4_init_26 : decode cX4_init 26 = .ok (.newarray .int, 2) := by decide +kernel
theorem dX4_init_28 : decode cX4_init 28 = .ok (.putfield 16, 3) := by decide +kernel
theorem dX4_init_31 : decode cX4_init 31 = .ok (.return_, 1) := by decide +kernel
theorem dX4_begin_0 : decode cX4_begin 0 = .ok (.aload_n 0, 1) := by decide +kernel
theorem dX4_begin_1 : decode cX4_begin 1 = .ok (.getfield 7, 3) := by decide +kernel
theorem dX4_begin_4 : decode cX4_begin 4 = .ok (.iconst 0, 1) := by decide +kernel
theorem dX4_begin_5 : decode cX4_begin 5 = .ok (.iload_n 1, 1) := by decide +kernel
theorem dX4_begin_6 : decode cX4_begin 6 = .ok (.iastore, 1) := by decide +kernel
theorem dX4_begin_7 : decode cX4_begin 7 = .ok (.aload_n 0, 1) := by decide +kernel
theorem dX4_begin_8 : decode cX4_begin 8 = .ok (.getfield 16, 3) := by decide +kernel
theorem dX4_begin_11 : decode cX4_begin 11 = .ok (.iconst 0, 1) := by decide +kernel
theorem dX4_begin_12 : decode cX4_begin 12 = .ok (.iload_n 1, 1) := by decide +kernel
theorem dX4_begin_13 : decode cX4_begin 13 = .ok (.iastore, 1) := by decide +kernel
theorem dX4_begin_14 : decode cX4_begin 14 = .ok (.return_, 1) := by decide +kernel
set_option maxRecDepth 20000 in
theorem ggX4_pass_X4_owedAt : GoodIn wsX4_pass wsX4_owedAt := goodIn_r _ [8, 3, 9, 10, 11, 12, 24, 25, 26] (by decide +kernel) (by decide +kernel)
set_option maxRecDepth 20000 in
theorem gX4_pass_X4_owedAt : GoodIn wsX4_pass (wsV RX4 19 RX4 yX4_owedAt wsX4_owedAt) := goodIn_app (goodIn_of _ (by decide +kernel)) ggX4_pass_X4_owedAt
set_option maxRecDepth 20000 in
theorem ggX4_pass_X4_take : GoodIn wsX4_pass wsX4_take := goodIn_r _ [16, 1, 17, 18, 11, 19, 24, 25, 26] (by decide +kernel) (by decide +kernel)
set_option maxRecDepth 20000 in
theorem gX4_pass_X4_take : GoodIn wsX4_pass (wsV RX4 23 RX4 yX4_take wsX4_take) := goodIn_app (goodIn_of _ (by decide +kernel)) ggX4_pass_X4_take
set_option maxRecDepth 20000 in
theorem ggX4_pass_X4_spoil : GoodIn wsX4_pass wsX4_spoil := goodIn_r _ [23, 1, 24, 25, 26] (by decide +kernel) (by decide +kernel)
set_option maxRecDepth 20000 in
theorem gX4_pass_X4_spoil : GoodIn wsX4_pass (wsV RX4 27 RX4 yX4_spoil wsX4_spoil) := goodIn_app (goodIn_of _ (by decide +kernel)) ggX4_pass_X4_spoil
theorem dX4_pass_0 : decode cX4_pass 0 = .ok (.aload_n 0, 1) := by decide +kernel
theorem dX4_pass_1 : decode cX4_pass 1 = .ok (.getfield 16, 3) := by decide +kernel
theorem dX4_pass_4 : decode cX4_pass 4 = .ok (.iload_n 1, 1) := by decide +kernel
theorem dX4_pass_5 : decode cX4_pass 5 = .ok (.iload_n 2, 1) := by decide +kernel
theorem dX4_pass_6 : decode cX4_pass 6 = .ok (.iastore, 1) := by decide +kernel
theorem dX4_pass_7 : decode cX4_pass 7 = .ok (.aload_n 0, 1) := by decide +kernel
theorem dX4_pass_8 : decode cX4_pass 8 = .ok (.iload_n 1, 1) := by decide +kernel
theorem dX4_pass_9 : decode cX4_pass 9 = .ok (.iload_n 3, 1) := by decide +kernel
theorem dX4_pass_10 : decode cX4_pass 10 = .ok (.aload_n 0, 1) := by decide +kernel
theorem dX4_pass_11 : decode cX4_pass 11 = .ok (.iload_n 1, 1) := by decide +kernel
theorem dX4_pass_12 : decode cX4_pass 12 = .ok (.iconst 1, 1) := by decide +kernel
theorem dX4_pass_13 : decode cX4_pass 13 = .ok (.isub, 1) := by decide +kernel
theorem dX4_pass_14 : decode cX4_pass 14 = .ok (.invokevirtual 19, 3) := by decide +kernel
theorem dX4_pass_17 : decode cX4_pass 17 = .ok (.iadd, 1) := by decide +kernel
theorem dX4_pass_18 : decode cX4_pass 18 = .ok (.invokevirtual 23, 3) := by decide +kernel
theorem dX4_pass_21 : decode cX4_pass 21 = .ok (.aload_n 0, 1) := by decide +kernel
theorem dX4_pass_22 : decode cX4_pass 22 = .ok (.getfield 13, 3) := by decide +kernel
theorem dX4_pass_25 : decode cX4_pass 25 = .ok (.iload_n 1, 1) := by decide +kernel
theorem dX4_pass_26 : decode cX4_pass 26 = .ok (.iload 4, 2) := by decide +kernel
theorem dX4_pass_28 : decode cX4_pass 28 = .ok (.ifCond .le 20, 3) := by decide +kernel
theorem dX4_pass_31 : decode cX4_pass 31 = .ok (.iload 4, 2) := by decide +kernel
theorem dX4_pass_33 : decode cX4_pass 33 = .ok (.iload_n 1, 1) := by decide +kernel
theorem dX4_pass_34 : decode cX4_pass 34 = .ok (.if_icmp .gt 14, 3) := by decide +kernel
theorem dX4_pass_37 : decode cX4_pass 37 = .ok (.aload_n 0, 1) := by decide +kernel
theorem dX4_pass_38 : decode cX4_pass 38 = .ok (.iload_n 1, 1) := by decide +kernel
theorem dX4_pass_39 : decode cX4_pass 39 = .ok (.iload 4, 2) := by decide +kernel
theorem dX4_pass_41 : decode cX4_pass 41 = .ok (.isub, 1) := by decide +kernel
theorem dX4_pass_42 : decode cX4_pass 42 = .ok (.invokevirtual 27, 3) := by decide +kernel
theorem dX4_pass_45 : decode cX4_pass 45 = .ok (.goto 4, 3) := by decide +kernel
theorem dX4_pass_48 : decode cX4_pass 48 = .ok (.iconst 0, 1) := by decide +kernel
theorem dX4_pass_49 : decode cX4_pass 49 = .ok (.iastore, 1) := by decide +kernel
theorem dX4_pass_50 : decode cX4_pass 50 = .ok (.aload_n 0, 1) := by decide +kernel
theorem dX4_pass_51 : decode cX4_pass 51 = .ok (.getfield 7, 3) := by decide +kernel
theorem dX4_pass_54 : decode cX4_pass 54 = .ok (.iload_n 1, 1) := by decide +kernel
theorem dX4_pass_55 : decode cX4_pass 55 = .ok (.aload_n 0, 1) := by decide +kernel
theorem dX4_pass_56 : decode cX4_pass 56 = .ok (.getfield 7, 3) := by decide +kernel
theorem dX4_pass_59 : decode cX4_pass 59 = .ok (.iload_n 1, 1) := by decide +kernel
theorem dX4_pass_60 : decode cX4_pass 60 = .ok (.iconst 1, 1) := by decide +kernel
theorem dX4_pass_61 : decode cX4_pass 61 = .ok (.isub, 1) := by decide +kernel
theorem dX4_pass_62 : decode cX4_pass 62 = .ok (.iaload, 1) := by decide +kernel
theorem dX4_pass_63 : decode cX4_pass 63 = .ok (.iload_n 2, 1) := by decide +kernel
theorem dX4_pass_64 : decode cX4_pass 64 = .ok (.iadd, 1) := by decide +kernel
theorem dX4_pass_65 : decode cX4_pass 65 = .ok (.iload_n 3, 1) := by decide +kernel
theorem dX4_pass_66 : decode cX4_pass 66 = .ok (.isub, 1) := by decide +kernel
theorem dX4_pass_67 : decode cX4_pass 67 = .ok (.aload_n 0, 1) := by decide +kernel
theorem dX4_pass_68 : decode cX4_pass 68 = .ok (.getfield 13, 3) := by decide +kernel
theorem dX4_pass_71 : decode cX4_pass 71 = .ok (.iload_n 1, 1) := by decide +kernel
theorem dX4_pass_72 : decode cX4_pass 72 = .ok (.iaload, 1) := by decide +kernel
theorem dX4_pass_73 : decode cX4_pass 73 = .ok (.isub, 1) := by decide +kernel
theorem dX4_pass_74 : decode cX4_pass 74 = .ok (.iastore, 1) := by decide +kernel
theorem dX4_pass_75 : decode cX4_pass 75 = .ok (.return_, 1) := by decide +kernel
theorem dX4_owedAt_0 : decode cX4_owedAt 0 = .ok (.iconst 0, 1) := by decide +kernel
theorem dX4_owedAt_1 : decode cX4_owedAt 1 = .ok (.aload_n 0, 1) := by decide +kernel
theorem dX4_owedAt_2 : decode cX4_owedAt 2 = .ok (.getfield 7, 3) := by decide +kernel
theorem dX4_owedAt_5 : decode cX4_owedAt 5 = .ok (.iload_n 1, 1) := by decide +kernel
theorem dX4_owedAt_6 : decode cX4_owedAt 6 = .ok (.iaload, 1) := by decide +kernel
theorem dX4_owedAt_7 : decode cX4_owedAt 7 = .ok (.ineg, 1) := by decide +kernel
theorem dX4_owedAt_8 : decode cX4_owedAt 8 = .ok (.invokestatic 30, 3) := by decide +kernel
theorem dX4_owedAt_11 : decode cX4_owedAt 11 = .ok (.ireturn, 1) := by decide +kernel
theorem dX4_take_0 : decode cX4_take 0 = .ok (.iload_n 2, 1) := by decide +kernel
theorem dX4_take_1 : decode cX4_take 1 = .ok (.istore_n 3, 1) := by decide +kernel
theorem dX4_take_2 : decode cX4_take 2 = .ok (.iconst 0, 1) := by decide +kernel
theorem dX4_take_3 : decode cX4_take 3 = .ok (.istore 4, 2) := by decide +kernel
theorem dX4_take_5 : decode cX4_take 5 = .ok (.iload 4, 2) := by decide +kernel
theorem dX4_take_7 : decode cX4_take 7 = .ok (.iload_n 1, 1) := by decide +kernel
theorem dX4_take_8 : decode cX4_take 8 = .ok (.if_icmp .gt 39, 3) := by decide +kernel
theorem dX4_take_11 : decode cX4_take 11 = .ok (.aload_n 0, 1) := by decide +kernel
theorem dX4_take_12 : decode cX4_take 12 = .ok (.getfield 16, 3) := by decide +kernel
theorem dX4_take_15 : decode cX4_take 15 = .ok (.iload 4, 2) := by decide +kernel
theorem dX4_take_17 : decode cX4_take 17 = .ok (.iaload, 1) := by decide +kernel
theorem dX4_take_18 : decode cX4_take 18 = .ok (.iload_n 3, 1) := by decide +kernel
theorem dX4_take_19 : decode cX4_take 19 = .ok (.invokestatic 36, 3) := by decide +kernel
theorem dX4_take_22 : decode cX4_take 22 = .ok (.istore 5, 2) := by decide +kernel
theorem dX4_take_24 : decode cX4_take 24 = .ok (.aload_n 0, 1) := by decide +kernel
theorem dX4_take_25 : decode cX4_take 25 = .ok (.getfield 16, 3) := by decide +kernel
theorem dX4_take_28 : decode cX4_take 28 = .ok (.iload 4, 2) := by decide +kernel
theorem dX4_take_30 : decode cX4_take 30 = .ok (.dup2, 1) := by decide +kernel
theorem dX4_take_31 : decode cX4_take 31 = .ok (.iaload, 1) := by decide +kernel
theorem dX4_take_32 : decode cX4_take 32 = .ok (.iload 5, 2) := by decide +kernel
theorem dX4_take_34 : decode cX4_take 34 = .ok (.isub, 1) := by decide +kernel
theorem dX4_take_35 : decode cX4_take 35 = .ok (.iastore, 1) := by decide +kernel
theorem dX4_take_36 : decode cX4_take 36 = .ok (.iload_n 3, 1) := by decide +kernel
theorem dX4_take_37 : decode cX4_take 37 = .ok (.iload 5, 2) := by decide +kernel
theorem dX4_take_39 : decode cX4_take 39 = .ok (.isub, 1) := by decide +kernel
theorem dX4_take_40 : decode cX4_take 40 = .ok (.istore_n 3, 1) := by decide +kernel
theorem dX4_take_41 : decode cX4_take 41 = .ok (.iinc 4 1, 3) := by decide +kernel
theorem dX4_take_44 : decode cX4_take 44 = .ok (.goto (-39), 3) := by decide +kernel
theorem dX4_take_47 : decode cX4_take 47 = .ok (.return_, 1) := by decide +kernel
theorem dX4_spoil_0 : decode cX4_spoil 0 = .ok (.aload_n 0, 1) := by decide +kernel
theorem dX4_spoil_1 : decode cX4_spoil 1 = .ok (.getfield 16, 3) := by decide +kernel
theorem dX4_spoil_4 : decode cX4_spoil 4 = .ok (.iload_n 1, 1) := by decide +kernel
theorem dX4_spoil_5 : decode cX4_spoil 5 = .ok (.iaload, 1) := by decide +kernel
theorem dX4_spoil_6 : decode cX4_spoil 6 = .ok (.istore_n 2, 1) := by decide +kernel
theorem dX4_spoil_7 : decode cX4_spoil 7 = .ok (.aload_n 0, 1) := by decide +kernel
theorem dX4_spoil_8 : decode cX4_spoil 8 = .ok (.getfield 16, 3) := by decide +kernel
theorem dX4_spoil_11 : decode cX4_spoil 11 = .ok (.iload_n 1, 1) := by decide +kernel
theorem dX4_spoil_12 : decode cX4_spoil 12 = .ok (.iconst 0, 1) := by decide +kernel
theorem dX4_spoil_13 : decode cX4_spoil 13 = .ok (.iastore, 1) := by decide +kernel
theorem dX4_spoil_14 : decode cX4_spoil 14 = .ok (.iload_n 2, 1) := by decide +kernel
theorem dX4_spoil_15 : decode cX4_spoil 15 = .ok (.ireturn, 1) := by decide +kernel
