theorem dX6_init_0 : decode cX6_init 0 = .ok (.aload_n 0, 1) := by decide +kernel
theorem dX6_init_1 : decode cX6_init 1 = .ok (.invokespecial 1, 3) := by decide +kernel
theorem dX6_init_4 : decode cX6_init 4 = .ok (.aload_n 0, 1) := by decide +kernel
theorem dX6_init_5 : decode cX6_init 5 = .ok (.bipush 48, 2) := by decide +kernel
theorem dX6_init_7 : decode cX6_init 7 = .ok (.newarray .int, 2) := by decide +kernel
theorem dX6_init_9 : decode cX6_init 9 = .ok (.putfield 7, 3) := by decide +kernel
theorem dX6_init_12 : decode cX6_init 12 = .ok (.aload_n 0, 1) := by decide +kernel
theorem dX6_init_13 : decode cX6_init 13 = .ok (.bipush 78, 2) := by decide +kernel
theorem dX6_init_15 : decode cX6_init 15 = .ok (.newarray .int, 2) := by decide +kernel
theorem dX6_init_17 : decode cX6_init 17 = .ok (.putfield 13, 3) := by decide +kernel
theorem dX6_init_20 : decode cX6_init 20 = .ok (.aload_n 0, 1) := by decide +kernel
theorem dX6_init_21 : decode cX6_init 21 = .ok (.bipush 78, 2) := by decide +kernel
theorem dX6_init_23 : decode cX6_init 23 = .ok (.newarray .int, 2) := by decide +kernel
theorem dX6_init_25 : decode cX6_init 25 = .ok (.putfield 16, 3) := by decide +kernel
theorem dX6_init_28 : decode cX6_init 28 = .ok (.aload_n 0, 1) := by decide +kernel
theorem dX6_init_29 : decode cX6_init 29 = .ok (.bipush 36, 2) := by decide +kernel
theorem dX6_init_31 : decode cX6_init 31 = .ok (.newarray .int, 2) := by decide +kernel
theorem dX6_init_33 : decode cX6_init 33 = .ok (.putfield 19, 3) := by decide +kernel
theorem dX6_init_36 : decode cX6_init 36 = .ok (.aload_n 0, 1) := by decide +kernel
theorem dX6_init_37 : decode cX6_init 37 = .ok (.bipush 13, 2) := by decide +kernel
theorem dX6_init_39 : decode cX6_init 39 = .ok (.newarray .int, 2) := by decide +kernel
theorem dX6_init_41 : decode cX6_init 41 = .ok (.putfield 22, 3) := by decide +kernel
theorem dX6_init_44 : decode cX6_init 44 = .ok (.aload_n 0, 1) := by decide +kernel
theorem dX6_init_45 : decode cX6_init 45 = .ok (.bipush 6, 2) := by decide +kernel
theorem dX6_init_47 : decode cX6_init 47 = .ok (.newarray .boolean, 2) := by decide +kernel
theorem dX6_init_49 : decode cX6_init 49 = .ok (.putfield 25, 3) := by decide +kernel
theorem dX6_init_52 : decode cX6_init 52 = .ok (.aload_n 0, 1) := by decide +kernel
theorem dX6_init_53 : decode cX6_init 53 = .ok (.bipush 13, 2) := by decide +kernel
theorem dX6_init_55 : decode cX6_init 55 = .ok (.newarray .long, 2) := by decide +kernel
theorem dX6_init_57 : decode cX6_init 57 = .ok (.putfield 29, 3) := by decide +kernel
theorem dX6_init_60 : decode cX6_init 60 = .ok (.aload_n 0, 1) := by decide +kernel
theorem dX6_init_61 : decode cX6_init 61 = .ok (.bipush 13, 2) := by decide +kernel
theorem dX6_init_63 : decode cX6_init 63 = .ok (.newarray .long, 2) := by decide +kernel
theorem dX6_init_65 : decode cX6_init 65 = .ok (.putfield 33, 3) := by decide +kernel
theorem dX6_init_68 : decode cX6_init 68 = .ok (.aload_n 0, 1) := by decide +kernel
theorem dX6_init_69 : decode cX6_init 69 = .ok (.bipush 13, 2) := by decide +kernel
theorem dX6_init_71 : decode cX6_init 71 = .ok (.newarray .long, 2) := by decide +kernel
theorem dX6_init_73 : decode cX6_init 73 = .ok (.putfield 36, 3) := by decide +kernel
theorem dX6_init_76 : decode cX6_init 76 = .ok (.aload_n 0, 1) := by decide +kernel
theorem dX6_init_77 : decode cX6_init 77 = .ok (.bipush 13, 2) := by decide +kernel
theorem dX6_init_79 : decode cX6_init 79 = .ok (.newarray .long, 2) := by decide +kernel
theorem dX6_init_81 : decode cX6_init 81 = .ok (.putfield 39, 3) := by decide +kernel
theorem dX6_init_84 : decode cX6_init 84 = .ok (.aload_n 0, 1) := by decide +kernel
theorem dX6_init_85 : decode cX6_init 85 = .ok (.bipush 13, 2) := by decide +kernel
theorem dX6_init_87 : decode cX6_init 87 = .ok (.newarray .int, 2) := by decide +kernel
theorem dX6_init_89 : decode cX6_init 89 = .ok (.putfield 42, 3) := by decide +kernel
theorem dX6_init_92 : decode cX6_init 92 = .ok (.aload_n 0, 1) := by decide +kernel
theorem dX6_init_93 : decode cX6_init 93 = .ok (.bipush 78, 2) := by decide +kernel
theorem dX6_init_95 : decode cX6_init 95 = .ok (.newarray .boolean, 2) := by decide +kernel
theorem dX6_init_97 : decode cX6_init 97 = .ok (.putfield 45, 3) := by decide +kernel
theorem dX6_init_100 : decode cX6_init 100 = .ok (.aload_n 0, 1) := by decide +kernel
theorem dX6_init_101 : decode cX6_init 101 = .ok (.sipush 160, 3) := by decide +kernel
theorem dX6_init_104 : decode cX6_init 104 = .ok (.newarray .int, 2) := by decide +kernel
theorem dX6_init_106 : decode cX6_init 106 = .ok (.putfield 48, 3) := by decide +kernel
theorem dX6_init_109 : decode cX6_init 109 = .ok (.aload_n 0, 1) := by decide +kernel
theorem dX6_init_110 : decode cX6_init 110 = .ok (.sipush 160, 3) := by decide +kernel
theorem dX6_init_113 : decode cX6_init 113 = .ok (.newarray .int, 2) := by decide +kernel
theorem dX6_init_115 : decode cX6_init 115 = .ok (.putfield 51, 3) := by decide +kernel
theorem dX6_init_118 : decode cX6_init 118 = .ok (.aload_n 0, 1) := by decide +kernel
theorem dX6_init_119 : decode cX6_init 119 = .ok (.sipush 160, 3) := by decide +kernel
theorem dX6_init_122 : decode cX6_init 122 = .ok (.newarray .int, 2) := by decide +kernel
theorem dX6_init_124 : decode cX6_init 124 = .ok (.putfield 54, 3) := by decide +kernel
theorem dX6_init_127 : decode cX6_init 127 = .ok (.aload_n 0, 1) := by decide +kernel
theorem dX6_init_128 : decode cX6_init 128 = .ok (.sipush 160, 3) := by decide +kernel
theorem dX6_init_131 : decode cX6_init 131 = .ok (.newarray .long, 2) := by decide +kernel
theorem dX6_init_133 : decode cX6_init 133 = .ok (.putfield 57, 3) := by decide +kernel
theorem dX6_init_136 : decode cX6_init 136 = .ok (.aload_n 0, 1) := by decide +kernel
theorem dX6_init_137 : decode cX6_init 137 = .ok (.bipush 78, 2) := by decide +kernel
theorem dX6_init_139 : decode cX6_init 139 = .ok (.newarray .long, 2) := by decide +kernel
theorem dX6_init_141 : decode cX6_init 141 = .ok (.putfield 60, 3) := by decide +kernel
theorem dX6_init_144 : decode cX6_init 144 = .ok (.aload_n 0, 1) := by decide +kernel
theorem dX6_init_145 : decode cX6_init 145 = .ok (.bipush 13, 2) := by decide +kernel
theorem dX6_init_147 : decode cX6_init 147 = .ok (.newarray .int, 2) := by decide +kernel
theorem dX6_init_149 : decode cX6_init 149 = .ok (.putfield 63, 3) := by decide +kernel
theorem dX6_init_152 : decode cX6_init 152 = .ok (.aload_n 0, 1) := by decide +kernel
theorem dX6_init_153 : decode cX6_init 153 = .ok (.bipush 14, 2) := by decide +kernel
theorem dX6_init_155 : decode cX6_init 155 = .ok (.newarray .long, 2) := by decide +kernel
theorem dX6_init_157 : decode cX6_init 157 = .ok (.putfield 66, 3) := by decide +kernel
theorem dX6_init_160 : decode cX6_init 160 = .ok (.aload_n 0, 1) := by decide +kernel
theorem dX6_init_161 : decode cX6_init 161 = .ok (.iload_n 1, 1) := by decide +kernel
theorem dX6_init_162 : decode cX6_init 162 = .ok (.iconst 1, 1) := by decide +kernel
theorem dX6_init_163 : decode cX6_init 163 = .ok (.if_icmp .ge 7, 3) := by decide +kernel
theorem dX6_init_166 : decode cX6_init 166 = .ok (.iconst 1, 1) := by decide +kernel
theorem dX6_init_167 : decode cX6_init 167 = .ok (.goto 15, 3) := by decide +kernel
theorem dX6_init_170 : decode cX6_init 170 = .ok (.iload_n 1, 1) := by decide +kernel
theorem dX6_init_171 : decode cX6_init 171 = .ok (.bipush 12, 2) := by decide +kernel
theorem dX6_init_173 : decode cX6_init 173 = .ok (.if_icmp .le 8, 3) := by decide +kernel
theorem dX6_init_176 : decode cX6_init 176 = .ok (.bipush 12, 2) := by decide +kernel
theorem dX6_init_178 : decode cX6_init 178 = .ok (.goto 4, 3) := by decide +kernel
theorem dX6_init_181 : decode cX6_init 181 = .ok (.iload_n 1, 1) := by decide +kernel
theorem dX6_init_182 : decode cX6_init 182 = .ok (.putfield 69, 3) := by decide +kernel
theorem dX6_init_185 : decode cX6_init 185 = .ok (.iconst 0, 1) := by decide +kernel
theorem dX6_init_186 : decode cX6_init 186 = .ok (.istore_n 2, 1) := by decide +kernel
theorem dX6_init_187 : decode cX6_init 187 = .ok (.iload_n 2, 1) := by decide +kernel
theorem dX6_init_188 : decode cX6_init 188 = .ok (.bipush 13, 2) := by decide +kernel
theorem dX6_init_190 : decode cX6_init 190 = .ok (.if_icmp .ge 18, 3) := by decide +kernel
theorem dX6_init_193 : decode cX6_init 193 = .ok (.aload_n 0, 1) := by decide +kernel
theorem dX6_init_194 : decode cX6_init 194 = .ok (.getfield 22, 3) := by decide +kernel
theorem dX6_init_197 : decode cX6_init 197 = .ok (.iload_n 2, 1) := by decide +kernel
theorem dX6_init_198 : decode cX6_init 198 = .ok (.sipush 10000, 3) := by decide +kernel
theorem dX6_init_201 : decode cX6_init 201 = .ok (.iastore, 1) := by decide +kernel
theorem dX6_init_202 : decode cX6_init 202 = .ok (.iinc 2 1, 3) := by decide +kernel
theorem dX6_init_205 : decode cX6_init 205 = .ok (.goto (-18), 3) := by decide +kernel
theorem dX6_init_208 : decode cX6_init 208 = .ok (.return_, 1) := by decide +kernel
theorem dX6_thrown_0 : decode cX6_thrown 0 = .ok (.aload_n 0, 1) := by decide +kernel
theorem dX6_thrown_1 : decode cX6_thrown 1 = .ok (.getfield 73, 3) := by decide +kernel
theorem dX6_thrown_4 : decode cX6_thrown 4 = .ok (.ireturn, 1) := by decide +kernel
theorem dX6_in_0 : decode cX6_in 0 = .ok (.iload_n 0, 1) := by decide +kernel
theorem dX6_in_1 : decode cX6_in 1 = .ok (.iload_n 1, 1) := by decide +kernel
theorem dX6_in_2 : decode cX6_in 2 = .ok (.if_icmp .lt 12, 3) := by decide +kernel
theorem dX6_in_5 : decode cX6_in 5 = .ok (.iload_n 0, 1) := by decide +kernel
theorem dX6_in_6 : decode cX6_in 6 = .ok (.iload_n 2, 1) := by decide +kernel
theorem dX6_in_7 : decode cX6_in 7 = .ok (.if_icmp .gt 7, 3) := by decide +kernel
theorem dX6_in_10 : decode cX6_in 10 = .ok (.iconst 1, 1) := by decide +kernel
theorem dX6_in_11 : decode cX6_in 11 = .ok (.goto 4, 3) := by decide +kernel
theorem dX6_in_14 : decode cX6_in 14 = .ok (.iconst 0, 1) := by decide +kernel
theorem dX6_in_15 : decode cX6_in 15 = .ok (.ireturn, 1) := by decide +kernel
set_option maxRecDepth 20000 in
theorem ggX6_isItem_X6_in : GoodIn wsX6_isItem wsX6_in := goodIn_r _ [5] (by decide +kernel) (by decide +kernel)
set_option maxRecDepth 20000 in
theorem gX6_isItem_X6_in : GoodIn wsX6_isItem (va_wsS RX6 79 yX6_in wsX6_in) := goodIn_app (goodIn_of _ (by decide +kernel)) ggX6_isItem_X6_in
theorem dX6_isItem_0 : decode cX6_isItem 0 = .ok (.iload_n 1, 1) := by decide +kernel
theorem dX6_isItem_1 : decode cX6_isItem 1 = .ok (.iconst 0, 1) := by decide +kernel
theorem dX6_isItem_2 : decode cX6_isItem 2 = .ok (.aload_n 0, 1) := by decide +kernel
theorem dX6_isItem_3 : decode cX6_isItem 3 = .ok (.getfield 76, 3) := by decide +kernel
theorem dX6_isItem_6 : decode cX6_isItem 6 = .ok (.iconst 1, 1) := by decide +kernel
theorem dX6_isItem_7 : decode cX6_isItem 7 = .ok (.isub, 1) := by decide +kernel
theorem dX6_isItem_8 : decode cX6_isItem 8 = .ok (.invokestatic 79, 3) := by decide +kernel
theorem dX6_isItem_11 : decode cX6_isItem 11 = .ok (.ireturn, 1) := by decide +kernel
set_option maxRecDepth 20000 in
theorem ggX6_isPeriod_X6_in : GoodIn wsX6_isPeriod wsX6_in := goodIn_r _ [5] (by decide +kernel) (by decide +kernel)
set_option maxRecDepth 20000 in
theorem gX6_isPeriod_X6_in : GoodIn wsX6_isPeriod (va_wsS RX6 79 yX6_in wsX6_in) := goodIn_app (goodIn_of _ (by decide +kernel)) ggX6_isPeriod_X6_in
theorem dX6_isPeriod_0 : decode cX6_isPeriod 0 = .ok (.iload_n 1, 1) := by decide +kernel
theorem dX6_isPeriod_1 : decode cX6_isPeriod 1 = .ok (.iconst 1, 1) := by decide +kernel
theorem dX6_isPeriod_2 : decode cX6_isPeriod 2 = .ok (.aload_n 0, 1) := by decide +kernel
theorem dX6_isPeriod_3 : decode cX6_isPeriod 3 = .ok (.getfield 69, 3) := by decide +kernel
theorem dX6_isPeriod_6 : decode cX6_isPeriod 6 = .ok (.invokestatic 79, 3) := by decide +kernel
theorem dX6_isPeriod_9 : decode cX6_isPeriod 9 = .ok (.ireturn, 1) := by decide +kernel
theorem dX6_item_0 : decode cX6_item 0 = .ok (.aload_n 0, 1) := by decide +kernel
theorem dX6_item_1 : decode cX6_item 1 = .ok (.iconst 0, 1) := by decide +kernel
theorem dX6_item_2 : decode cX6_item 2 = .ok (.putfield 73, 3) := by decide +kernel
theorem dX6_item_5 : decode cX6_item 5 = .ok (.aload_n 0, 1) := by decide +kernel
theorem dX6_item_6 : decode cX6_item 6 = .ok (.getfield 76, 3) := by decide +kernel
theorem dX6_item_9 : decode cX6_item 9 = .ok (.bipush 6, 2) := by decide +kernel
theorem dX6_item_11 : decode cX6_item 11 = .ok (.if_icmp .ne 6, 3) := by decide +kernel
theorem dX6_item_14 : decode cX6_item 14 = .ok (.bipush (-4), 2) := by decide +kernel
theorem dX6_item_16 : decode cX6_item 16 = .ok (.ireturn, 1) := by decide +kernel
theorem dX6_item_17 : decode cX6_item 17 = .ok (.aload_n 0, 1) := by decide +kernel
theorem dX6_item_18 : decode cX6_item 18 = .ok (.dup, 1) := by decide +kernel
theorem dX6_item_19 : decode cX6_item 19 = .ok (.getfield 76, 3) := by decide +kernel
theorem dX6_item_22 : decode cX6_item 22 = .ok (.iconst 1, 1) := by decide +kernel
theorem dX6_item_23 : decode cX6_item 23 = .ok (.iadd, 1) := by decide +kernel
theorem dX6_item_24 : decode cX6_item 24 = .ok (.putfield 76, 3) := by decide +kernel
theorem dX6_item_27 : decode cX6_item 27 = .ok (.aload_n 0, 1) := by decide +kernel
theorem dX6_item_28 : decode cX6_item 28 = .ok (.getfield 76, 3) := by decide +kernel
theorem dX6_item_31 : decode cX6_item 31 = .ok (.iconst 1, 1) := by decide +kernel
theorem dX6_item_32 : decode cX6_item 32 = .ok (.isub, 1) := by decide +kernel
theorem dX6_item_33 : decode cX6_item 33 = .ok (.ireturn, 1) := by decide +kernel
theorem dX6_bound_0 : decode cX6_bound 0 = .ok (.iload_n 0, 1) := by decide +kernel
theorem dX6_bound_1 : decode cX6_bound 1 = .ok (.tableswitch 74 0 7 #[47, 51, 54, 58, 61, 65, 68, 72], 47) := by decide +kernel
theorem dX6_bound_48 : decode cX6_bound 48 = .ok (.sipush 10000, 3) := by decide +kernel
theorem dX6_bound_51 : decode cX6_bound 51 = .ok (.ireturn, 1) := by decide +kernel
theorem dX6_bound_52 : decode cX6_bound 52 = .ok (.bipush 100, 2) := by decide +kernel
theorem dX6_bound_54 : decode cX6_bound 54 = .ok (.ireturn, 1) := by decide +kernel
theorem dX6_bound_55 : decode cX6_bound 55 = .ok (.sipush 1000, 3) := by decide +kernel
theorem dX6_bound_58 : decode cX6_bound 58 = .ok (.ireturn, 1) := by decide +kernel
theorem dX6_bound_59 : decode cX6_bound 59 = .ok (.bipush 12, 2) := by decide +kernel
theorem dX6_bound_61 : decode cX6_bound 61 = .ok (.ireturn, 1) := by decide +kernel
theorem dX6_bound_62 : decode cX6_bound 62 = .ok (.sipush 1000, 3) := by decide +kernel
theorem dX6_bound_65 : decode cX6_bound 65 = .ok (.ireturn, 1) := by decide +kernel
theorem dX6_bound_66 : decode cX6_bound 66 = .ok (.bipush 20, 2) := by decide +kernel
theorem dX6_bound_68 : decode cX6_bound 68 = .ok (.ireturn, 1) := by decide +kernel
theorem dX6_bound_69 : decode cX6_bound 69 = .ok (.sipush 200, 3) := by decide +kernel
theorem dX6_bound_72 : decode cX6_bound 72 = .ok (.ireturn, 1) := by decide +kernel
theorem dX6_bound_73 : decode cX6_bound 73 = .ok (.iconst 3, 1) := by decide +kernel
theorem dX6_bound_74 : decode cX6_bound 74 = .ok (.ireturn, 1) := by decide +kernel
theorem dX6_bound_75 : decode cX6_bound 75 = .ok (.iconst (-1), 1) := by decide +kernel
theorem dX6_bound_76 : decode cX6_bound 76 = .ok (.ireturn, 1) := by decide +kernel
set_option maxRecDepth 20000 in
theorem ggX6_set_X6_isItem : GoodIn wsX6_set wsX6_isItem := goodIn_r _ [7, 8, 9, 10, 6, 11, 15, 16, 17, 18, 19, 20, 21, 22, 23, 24, 25, 26, 27, 28, 29, 30, 31, 32, 33, 34, 35, 36, 37, 38, 39] (by decide +kernel) (by decide +kernel)
set_option maxRecDepth 20000 in
theorem gX6_set_X6_isItem : GoodIn wsX6_set (wsV RX6 83 RX6 yX6_isItem wsX6_isItem) := goodIn_app (goodIn_of _ (by decide +kernel)) ggX6_set_X6_isItem
set_option maxRecDepth 20000 in
theorem ggX6_set_X6_bound : GoodIn wsX6_set wsX6_bound := goodIn_r _ [14] (by decide +kernel) (by decide +kernel)
set_option maxRecDepth 20000 in
theorem gX6_set_X6_bound : GoodIn wsX6_set (va_wsS RX6 87 yX6_bound wsX6_bound) := goodIn_app (goodIn_of _ (by decide +kernel)) ggX6_set_X6_bound
set_option maxRecDepth 20000 in
theorem ggX6_set_X6_in : GoodIn wsX6_set wsX6_in := goodIn_r _ [11] (by decide +kernel) (by decide +kernel)
set_option maxRecDepth 20000 in
theorem gX6_set_X6_in : GoodIn wsX6_set (va_wsS RX6 79 yX6_in wsX6_in) := goodIn_app (goodIn_of _ (by decide +kernel)) ggX6_set_X6_in
theorem dX6_set_0 : decode cX6_set 0 = .ok (.aload_n 0, 1) := by decide +kernel
theorem dX6_set_1 : decode cX6_set 1 = .ok (.iconst 0, 1) := by decide +kernel
theorem dX6_set_2 : decode cX6_set 2 = .ok (.putfield 73, 3) := by decide +kernel
theorem dX6_set_5 : decode cX6_set 5 = .ok (.aload_n 0, 1) := by decide +kernel
theorem dX6_set_6 : decode cX6_set 6 = .ok (.iload_n 1, 1) := by decide +kernel
theorem dX6_set_7 : decode cX6_set 7 = .ok (.invokevirtual 83, 3) := by decide +kernel
theorem dX6_set_10 : decode cX6_set 10 = .ok (.ifCond .ne 5, 3) := by decide +kernel
theorem dX6_set_13 : decode cX6_set 13 = .ok (.iconst (-1), 1) := by decide +kernel
theorem dX6_set_14 : decode cX6_set 14 = .ok (.ireturn, 1) := by decide +kernel
theorem dX6_set_15 : decode cX6_set 15 = .ok (.iload_n 3, 1) := by decide +kernel
theorem dX6_set_16 : decode cX6_set 16 = .ok (.iconst 0, 1) := by decide +kernel
theorem dX6_set_17 : decode cX6_set 17 = .ok (.iload_n 2, 1) := by decide +kernel
theorem dX6_set_18 : decode cX6_set 18 = .ok (.invokestatic 87, 3) := by decide +kernel
theorem dX6_set_21 : decode cX6_set 21 = .ok (.invokestatic 79, 3) := by decide +kernel
theorem dX6_set_24 : decode cX6_set 24 = .ok (.ifCond .ne 6, 3) := by decide +kernel
theorem dX6_set_27 : decode cX6_set 27 = .ok (.bipush (-2), 2) := by decide +kernel
theorem dX6_set_29 : decode cX6_set 29 = .ok (.ireturn, 1) := by decide +kernel
theorem dX6_set_30 : decode cX6_set 30 = .ok (.aload_n 0, 1) := by decide +kernel
theorem dX6_set_31 : decode cX6_set 31 = .ok (.getfield 7, 3) := by decide +kernel
theorem dX6_set_34 : decode cX6_set 34 = .ok (.bipush 8, 2) := by decide +kernel
theorem dX6_set_36 : decode cX6_set 36 = .ok (.iload_n 1, 1) := by decide +kernel
theorem dX6_set_37 : decode cX6_set 37 = .ok (.imul, 1) := by decide +kernel
theorem dX6_set_38 : decode cX6_set 38 = .ok (.iload_n 2, 1) := by decide +kernel
theorem dX6_set_39 : decode cX6_set 39 = .ok (.iadd, 1) := by decide +kernel
theorem dX6_set_40 : decode cX6_set 40 = .ok (.iaload, 1) := by decide +kernel
theorem dX6_set_41 : decode cX6_set 41 = .ok (.istore 4, 2) := by decide +kernel
theorem dX6_set_43 : decode cX6_set 43 = .ok (.aload_n 0, 1) := by decide +kernel
theorem dX6_set_44 : decode cX6_set 44 = .ok (.getfield 7, 3) := by decide +kernel
theorem dX6_set_47 : decode cX6_set 47 = .ok (.bipush 8, 2) := by decide +kernel
theorem dX6_set_49 : decode cX6_set 49 = .ok (.iload_n 1, 1) := by decide +kernel
theorem dX6_set_50 : decode cX6_set 50 = .ok (.imul, 1) := by decide +kernel
theorem dX6_set_51 : decode cX6_set 51 = .ok (.iload_n 2, 1) := by decide +kernel
theorem dX6_set_52 : decode cX6_set 52 = .ok (.iadd, 1) := by decide +kernel
theorem dX6_set_53 : decode cX6_set 53 = .ok (.iload_n 3, 1) := by decide +kernel
theorem dX6_set_54 : decode cX6_set 54 = .ok (.iastore, 1) := by decide +kernel
theorem dX6_set_55 : decode cX6_set 55 = .ok (.iload 4, 2) := by decide +kernel
theorem dX6_set_57 : decode cX6_set 57 = .ok (.ireturn, 1) := by decide +kernel
set_option maxRecDepth 20000 in
theorem ggX6_need_X6_isItem : GoodIn wsX6_need wsX6_isItem := goodIn_r _ [7, 8, 9, 10, 6, 11, 17, 18, 19, 20, 21, 22, 23, 24, 25, 26, 27, 28, 29, 30, 31, 32, 33, 34, 35, 36, 37, 38, 39, 40, 41] (by decide +kernel) (by decide +kernel)
set_option maxRecDepth 20000 in
theorem gX6_need_X6_isItem : GoodIn wsX6_need (wsV RX6 83 RX6 yX6_isItem wsX6_isItem) := goodIn_app (goodIn_of _ (by decide +kernel)) ggX6_need_X6_isItem
set_option maxRecDepth 20000 in
theorem ggX6_need_X6_isPeriod : GoodIn wsX6_need wsX6_isPeriod := goodIn_r _ [15, 16, 9, 10, 6, 11, 17, 18, 19, 20, 21, 22, 23, 24, 25, 26, 27, 28, 29, 30, 31, 32, 33, 34, 35, 36, 37, 38, 39, 40, 41] (by decide +kernel) (by decide +kernel)
set_option maxRecDepth 20000 in
theorem gX6_need_X6_isPeriod : GoodIn wsX6_need (wsV RX6 91 RX6 yX6_isPeriod wsX6_isPeriod) := goodIn_app (goodIn_of _ (by decide +kernel)) ggX6_need_X6_isPeriod
set_option maxRecDepth 20000 in
theorem ggX6_need_X6_in : GoodIn wsX6_need wsX6_in := goodIn_r _ [11] (by decide +kernel) (by decide +kernel)
set_option maxRecDepth 20000 in
theorem gX6_need_X6_in : GoodIn wsX6_need (va_wsS RX6 79 yX6_in wsX6_in) := goodIn_app (goodIn_of _ (by decide +kernel)) ggX6_need_X6_in
theorem dX6_need_0 : decode cX6_need 0 = .ok (.aload_n 0, 1) := by decide +kernel
theorem dX6_need_1 : decode cX6_need 1 = .ok (.iconst 0, 1) := by decide +kernel
theorem dX6_need_2 : decode cX6_need 2 = .ok (.putfield 73, 3) := by decide +kernel
theorem dX6_need_5 : decode cX6_need 5 = .ok (.aload_n 0, 1) := by decide +kernel
theorem dX6_need_6 : decode cX6_need 6 = .ok (.iload_n 1, 1) := by decide +kernel
theorem dX6_need_7 : decode cX6_need 7 = .ok (.invokevirtual 83, 3) := by decide +kernel
theorem dX6_need_10 : decode cX6_need 10 = .ok (.ifCond .eq 11, 3) := by decide +kernel
theorem dX6_need_13 : decode cX6_need 13 = .ok (.aload_n 0, 1) := by decide +kernel
theorem dX6_need_14 : decode cX6_need 14 = .ok (.iload_n 2, 1) := by decide +kernel
theorem dX6_need_15 : decode cX6_need 15 = .ok (.invokevirtual 91, 3) := by decide +kernel
theorem dX6_need_18 : decode cX6_need 18 = .ok (.ifCond .ne 5, 3) := by decide +kernel
theorem dX6_need_21 : decode cX6_need 21 = .ok (.iconst (-1), 1) := by decide +kernel
theorem dX6_need_22 : decode cX6_need 22 = .ok (.ireturn, 1) := by decide +kernel
theorem dX6_need_23 : decode cX6_need 23 = .ok (.iload_n 3, 1) := by decide +kernel
theorem dX6_need_24 : decode cX6_need 24 = .ok (.iconst 0, 1) := by decide +kernel
theorem dX6_need_25 : decode cX6_need 25 = .ok (.sipush 1000, 3) := by decide +kernel
theorem dX6_need_28 : decode cX6_need 28 = .ok (.invokestatic 79, 3) := by decide +kernel
theorem dX6_need_31 : decode cX6_need 31 = .ok (.ifCond .ne 6, 3) := by decide +kernel
theorem dX6_need_34 : decode cX6_need 34 = .ok (.bipush (-2), 2) := by decide +kernel
theorem dX6_need_36 : decode cX6_need 36 = .ok (.ireturn, 1) := by decide +kernel
theorem dX6_need_37 : decode cX6_need 37 = .ok (.aload_n 0, 1) := by decide +kernel
theorem dX6_need_38 : decode cX6_need 38 = .ok (.getfield 13, 3) := by decide +kernel
theorem dX6_need_41 : decode cX6_need 41 = .ok (.bipush 13, 2) := by decide +kernel
theorem dX6_need_43 : decode cX6_need 43 = .ok (.iload_n 1, 1) := by decide +kernel
theorem dX6_need_44 : decode cX6_need 44 = .ok (.imul, 1) := by decide +kernel
theorem dX6_need_45 : decode cX6_need 45 = .ok (.iload_n 2, 1) := by decide +kernel
theorem dX6_need_46 : decode cX6_need 46 = .ok (.iadd, 1) := by decide +kernel
theorem dX6_need_47 : decode cX6_need 47 = .ok (.iaload, 1) := by decide +kernel
theorem dX6_need_48 : decode cX6_need 48 = .ok (.istore 4, 2) := by decide +kernel
theorem dX6_need_50 : decode cX6_need 50 = .ok (.aload_n 0, 1) := by decide +kernel
theorem dX6_need_51 : decode cX6_need 51 = .ok (.getfield 13, 3) := by decide +kernel
theorem dX6_need_54 : decode cX6_need 54 = .ok (.bipush 13, 2) := by decide +kernel
theorem dX6_need_56 : decode cX6_need 56 = .ok (.iload_n 1, 1) := by decide +kernel
theorem dX6_need_57 : decode cX6_need 57 = .ok (.imul, 1) := by decide +kernel
theorem dX6_need_58 : decode cX6_need 58 = .ok (.iload_n 2, 1) := by decide +kernel
theorem dX6_need_59 : decode cX6_need 59 = .ok (.iadd, 1) := by decide +kernel
theorem dX6_need_60 : decode cX6_need 60 = .ok (.iload_n 3, 1) := by decide +kernel
theorem dX6_need_61 : decode cX6_need 61 = .ok (.iastore, 1) := by decide +kernel
theorem dX6_need_62 : decode cX6_need 62 = .ok (.iload 4, 2) := by decide +kernel
theorem dX6_need_64 : decode cX6_need 64 = .ok (.ireturn, 1) := by decide +kernel
theorem dX6_isWithin_0 : decode cX6_isWithin 0 = .ok (.iconst 0, 1) := by decide +kernel
theorem dX6_isWithin_1 : decode cX6_isWithin 1 = .ok (.istore_n 3, 1) := by decide +kernel
theorem dX6_isWithin_2 : decode cX6_isWithin 2 = .ok (.iload_n 3, 1) := by decide +kernel
theorem dX6_isWithin_3 : decode cX6_isWithin 3 = .ok (.bipush 6, 2) := by decide +kernel
theorem dX6_isWithin_5 : decode cX6_isWithin 5 = .ok (.if_icmp .ge 25, 3) := by decide +kernel
theorem dX6_isWithin_8 : decode cX6_isWithin 8 = .ok (.aload_n 0, 1) := by decide +kernel
theorem dX6_isWithin_9 : decode cX6_isWithin 9 = .ok (.getfield 25, 3) := by decide +kernel
theorem dX6_isWithin_12 : decode cX6_isWithin 12 = .ok (.iload_n 3, 1) := by decide +kernel
theorem dX6_isWithin_13 : decode cX6_isWithin 13 = .ok (.iload_n 3, 1) := by decide +kernel
theorem dX6_isWithin_14 : decode cX6_isWithin 14 = .ok (.iload_n 1, 1) := by decide +kernel
theorem dX6_isWithin_15 : decode cX6_isWithin 15 = .ok (.if_icmp .ne 7, 3) := by decide +kernel
theorem dX6_isWithin_18 : decode cX6_isWithin 18 = .ok (.iconst 1, 1) := by decide +kernel
theorem dX6_isWithin_19 : decode cX6_isWithin 19 = .ok (.goto 4, 3) := by decide +kernel
theorem dX6_isWithin_22 : decode cX6_isWithin 22 = .ok (.iconst 0, 1) := by decide +kernel
theorem dX6_isWithin_23 : decode cX6_isWithin 23 = .ok (.bastore, 1) := by decide +kernel
theorem dX6_isWithin_24 : decode cX6_isWithin 24 = .ok (.iinc 3 1, 3) := by decide +kernel
theorem dX6_isWithin_27 : decode cX6_isWithin 27 = .ok (.goto (-25), 3) := by decide +kernel
theorem dX6_isWithin_30 : decode cX6_isWithin 30 = .ok (.iconst 0, 1) := by decide +kernel
theorem dX6_isWithin_31 : decode cX6_isWithin 31 = .ok (.istore_n 3, 1) := by decide +kernel
theorem dX6_isWithin_32 : decode cX6_isWithin 32 = .ok (.iload_n 3, 1) := by decide +kernel
theorem dX6_isWithin_33 : decode cX6_isWithin 33 = .ok (.aload_n 0, 1) := by decide +kernel
theorem dX6_isWithin_34 : decode cX6_isWithin 34 = .ok (.getfield 76, 3) := by decide +kernel
theorem dX6_isWithin_37 : decode cX6_isWithin 37 = .ok (.if_icmp .ge 93, 3) := by decide +kernel
theorem dX6_isWithin_40 : decode cX6_isWithin 40 = .ok (.iconst 0, 1) := by decide +kernel
theorem dX6_isWithin_41 : decode cX6_isWithin 41 = .ok (.istore 4, 2) := by decide +kernel
theorem dX6_isWithin_43 : decode cX6_isWithin 43 = .ok (.iload 4, 2) := by decide +kernel
theorem dX6_isWithin_45 : decode cX6_isWithin 45 = .ok (.aload_n 0, 1) := by decide +kernel
theorem dX6_isWithin_46 : decode cX6_isWithin 46 = .ok (.getfield 76, 3) := by decide +kernel
theorem dX6_isWithin_49 : decode cX6_isWithin 49 = .ok (.if_icmp .ge 75, 3) := by decide +kernel
theorem dX6_isWithin_52 : decode cX6_isWithin 52 = .ok (.iconst 0, 1) := by decide +kernel
theorem dX6_isWithin_53 : decode cX6_isWithin 53 = .ok (.istore 5, 2) := by decide +kernel
theorem dX6_isWithin_55 : decode cX6_isWithin 55 = .ok (.iload 5, 2) := by decide +kernel
theorem dX6_isWithin_57 : decode cX6_isWithin 57 = .ok (.aload_n 0, 1) := by decide +kernel
theorem dX6_isWithin_58 : decode cX6_isWithin 58 = .ok (.getfield 76, 3) := by decide +kernel
theorem dX6_isWithin_61 : decode cX6_isWithin 61 = .ok (.if_icmp .ge 57, 3) := by decide +kernel
theorem dX6_isWithin_64 : decode cX6_isWithin 64 = .ok (.aload_n 0, 1) := by decide +kernel
theorem dX6_isWithin_65 : decode cX6_isWithin 65 = .ok (.getfield 25, 3) := by decide +kernel
theorem dX6_isWithin_68 : decode cX6_isWithin 68 = .ok (.iload 5, 2) := by decide +kernel
theorem dX6_isWithin_70 : decode cX6_isWithin 70 = .ok (.aload_n 0, 1) := by decide +kernel
theorem dX6_isWithin_71 : decode cX6_isWithin 71 = .ok (.getfield 25, 3) := by decide +kernel
theorem dX6_isWithin_74 : decode cX6_isWithin 74 = .ok (.iload 5, 2) := by decide +kernel
theorem dX6_isWithin_76 : decode cX6_isWithin 76 = .ok (.baload, 1) := by decide +kernel
theorem dX6_isWithin_77 : decode cX6_isWithin 77 = .ok (.ifCond .ne 29, 3) := by decide +kernel
theorem dX6_isWithin_80 : decode cX6_isWithin 80 = .ok (.aload_n 0, 1) := by decide +kernel
theorem dX6_isWithin_81 : decode cX6_isWithin 81 = .ok (.getfield 25, 3) := by decide +kernel
theorem dX6_isWithin_84 : decode cX6_isWithin 84 = .ok (.iload 4, 2) := by decide +kernel
theorem dX6_isWithin_86 : decode cX6_isWithin 86 = .ok (.baload, 1) := by decide +kernel
theorem dX6_isWithin_87 : decode cX6_isWithin 87 = .ok (.ifCond .eq 23, 3) := by decide +kernel
theorem dX6_isWithin_90 : decode cX6_isWithin 90 = .ok (.aload_n 0, 1) := by decide +kernel
theorem dX6_isWithin_91 : decode cX6_isWithin 91 = .ok (.getfield 19, 3) := by decide +kernel
theorem dX6_isWithin_94 : decode cX6_isWithin 94 = .ok (.bipush 6, 2) := by decide +kernel
theorem dX6_isWithin_96 : decode cX6_isWithin 96 = .ok (.iload 4, 2) := by decide +kernel
theorem dX6_isWithin_98 : decode cX6_isWithin 98 = .ok (.imul, 1) := by decide +kernel
theorem dX6_isWithin_99 : decode cX6_isWithin 99 = .ok (.iload 5, 2) := by decide +kernel
theorem dX6_isWithin_101 : decode cX6_isWithin 101 = .ok (.iadd, 1) := by decide +kernel
theorem dX6_isWithin_102 : decode cX6_isWithin 102 = .ok (.iaload, 1) := by decide +kernel
theorem dX6_isWithin_103 : decode cX6_isWithin 103 = .ok (.ifCond .le 7, 3) := by decide +kernel
theorem dX6_isWithin_106 : decode cX6_isWithin 106 = .ok (.iconst 1, 1) := by decide +kernel
theorem dX6_isWithin_107 : decode cX6_isWithin 107 = .ok (.goto 4, 3) := by decide +kernel
theorem dX6_isWithin_110 : decode cX6_isWithin 110 = .ok (.iconst 0, 1) := by decide +kernel
theorem dX6_isWithin_111 : decode cX6_isWithin 111 = .ok (.bastore, 1) := by decide +kernel
theorem dX6_isWithin_112 : decode cX6_isWithin 112 = .ok (.iinc 5 1, 3) := by decide +kernel
theorem dX6_isWithin_115 : decode cX6_isWithin 115 = .ok (.goto (-60), 3) := by decide +kernel
theorem dX6_isWithin_118 : decode cX6_isWithin 118 = .ok (.iinc 4 1, 3) := by decide +kernel
theorem dX6_isWithin_121 : decode cX6_isWithin 121 = .ok (.goto (-78), 3) := by decide +kernel
theorem dX6_isWithin_124 : decode cX6_isWithin 124 = .ok (.iinc 3 1, 3) := by decide +kernel
theorem dX6_isWithin_127 : decode cX6_isWithin 127 = .ok (.goto (-95), 3) := by decide +kernel
theorem dX6_isWithin_130 : decode cX6_isWithin 130 = .ok (.aload_n 0, 1) := by decide +kernel
theorem dX6_isWithin_131 : decode cX6_isWithin 131 = .ok (.getfield 25, 3) := by decide +kernel
theorem dX6_isWithin_134 : decode cX6_isWithin 134 = .ok (.iload_n 2, 1) := by decide +kernel
theorem dX6_isWithin_135 : decode cX6_isWithin 135 = .ok (.baload, 1) := by decide +kernel
theorem dX6_isWithin_136 : decode cX6_isWithin 136 = .ok (.ireturn, 1) := by decide +kernel
set_option maxRecDepth 20000 in
theorem ggX6_part_X6_isItem : GoodIn wsX6_part wsX6_isItem := goodIn_r _ [7, 8, 9, 10, 6, 11, 17, 18, 19, 20, 21, 22, 23, 24, 25, 26, 27, 28, 29, 30, 31, 32, 33, 34, 35, 36, 37, 38, 39, 40, 41] (by decide +kernel) (by decide +kernel)
set_option maxRecDepth 20000 in
theorem gX6_part_X6_isItem : GoodIn wsX6_part (wsV RX6 83 RX6 yX6_isItem wsX6_isItem) := goodIn_app (goodIn_of _ (by decide +kernel)) ggX6_part_X6_isItem
set_option maxRecDepth 20000 in
theorem ggX6_part_X6_in : GoodIn wsX6_part wsX6_in := goodIn_r _ [11] (by decide +kernel) (by decide +kernel)
set_option maxRecDepth 20000 in
theorem gX6_part_X6_in : GoodIn wsX6_part (va_wsS RX6 79 yX6_in wsX6_in) := goodIn_app (goodIn_of _ (by decide +kernel)) ggX6_part_X6_in
set_option maxRecDepth 20000 in
theorem ggX6_part_X6_isWithin : GoodIn wsX6_part wsX6_isWithin := goodIn_r _ [15, 16, 8, 2, 17, 18, 19, 20, 21, 22, 23, 24, 25, 26, 27, 28, 29, 30, 31, 32, 33, 34, 35, 36, 37, 38, 39, 40, 41] (by decide +kernel) (by decide +kernel)
set_option maxRecDepth 20000 in
theorem gX6_part_X6_isWithin : GoodIn wsX6_part (wsV RX6 94 RX6 yX6_isWithin wsX6_isWithin) := goodIn_app (goodIn_of _ (by decide +kernel)) ggX6_part_X6_isWithin
theorem dX6_part_0 : decode cX6_part 0 = .ok (.aload_n 0, 1) := by decide +kernel
theorem dX6_part_1 : decode cX6_part 1 = .ok (.iconst 0, 1) := by decide +kernel
theorem dX6_part_2 : decode cX6_part 2 = .ok (.putfield 73, 3) := by decide +kernel
theorem dX6_part_5 : decode cX6_part 5 = .ok (.aload_n 0, 1) := by decide +kernel
theorem dX6_part_6 : decode cX6_part 6 = .ok (.iload_n 1, 1) := by decide +kernel
theorem dX6_part_7 : decode cX6_part 7 = .ok (.invokevirtual 83, 3) := by decide +kernel
theorem dX6_part_10 : decode cX6_part 10 = .ok (.ifCond .eq 11, 3) := by decide +kernel
theorem dX6_part_13 : decode cX6_part 13 = .ok (.aload_n 0, 1) := by decide +kernel
theorem dX6_part_14 : decode cX6_part 14 = .ok (.iload_n 2, 1) := by decide +kernel
theorem dX6_part_15 : decode cX6_part 15 = .ok (.invokevirtual 83, 3) := by decide +kernel
theorem dX6_part_18 : decode cX6_part 18 = .ok (.ifCond .ne 5, 3) := by decide +kernel
theorem dX6_part_21 : decode cX6_part 21 = .ok (.iconst (-1), 1) := by decide +kernel
theorem dX6_part_22 : decode cX6_part 22 = .ok (.ireturn, 1) := by decide +kernel
theorem dX6_part_23 : decode cX6_part 23 = .ok (.iload_n 3, 1) := by decide +kernel
theorem dX6_part_24 : decode cX6_part 24 = .ok (.iconst 0, 1) := by decide +kernel
theorem dX6_part_25 : decode cX6_part 25 = .ok (.bipush 9, 2) := by decide +kernel
theorem dX6_part_27 : decode cX6_part 27 = .ok (.invokestatic 79, 3) := by decide +kernel
theorem dX6_part_30 : decode cX6_part 30 = .ok (.ifCond .ne 6, 3) := by decide +kernel
theorem dX6_part_33 : decode cX6_part 33 = .ok (.bipush (-2), 2) := by decide +kernel
theorem dX6_part_35 : decode cX6_part 35 = .ok (.ireturn, 1) := by decide +kernel
theorem dX6_part_36 : decode cX6_part 36 = .ok (.iload_n 3, 1) := by decide +kernel
theorem dX6_part_37 : decode cX6_part 37 = .ok (.ifCond .le 15, 3) := by decide +kernel
theorem dX6_part_40 : decode cX6_part 40 = .ok (.aload_n 0, 1) := by decide +kernel
theorem dX6_part_41 : decode cX6_part 41 = .ok (.iload_n 2, 1) := by decide +kernel
theorem dX6_part_42 : decode cX6_part 42 = .ok (.iload_n 1, 1) := by decide +kernel
theorem dX6_part_43 : decode cX6_part 43 = .ok (.invokevirtual 94, 3) := by decide +kernel
theorem dX6_part_46 : decode cX6_part 46 = .ok (.ifCond .eq 6, 3) := by decide +kernel
theorem dX6_part_49 : decode cX6_part 49 = .ok (.bipush (-3), 2) := by decide +kernel
theorem dX6_part_51 : decode cX6_part 51 = .ok (.ireturn, 1) := by decide +kernel
theorem dX6_part_52 : decode cX6_part 52 = .ok (.aload_n 0, 1) := by decide +kernel
theorem dX6_part_53 : decode cX6_part 53 = .ok (.getfield 19, 3) := by decide +kernel
theorem dX6_part_56 : decode cX6_part 56 = .ok (.bipush 6, 2) := by decide +kernel
theorem dX6_part_58 : decode cX6_part 58 = .ok (.iload_n 1, 1) := by decide +kernel
theorem dX6_part_59 : decode cX6_part 59 = .ok (.imul, 1) := by decide +kernel
theorem dX6_part_60 : decode cX6_part 60 = .ok (.iload_n 2, 1) := by decide +kernel
theorem dX6_part_61 : decode cX6_part 61 = .ok (.iadd, 1) := by decide +kernel
theorem dX6_part_62 : decode cX6_part 62 = .ok (.iaload, 1) := by decide +kernel
theorem dX6_part_63 : decode cX6_part 63 = .ok (.istore 4, 2) := by decide +kernel
theorem dX6_part_65 : decode cX6_part 65 = .ok (.aload_n 0, 1) := by decide +kernel
theorem dX6_part_66 : decode cX6_part 66 = .ok (.getfield 19, 3) := by decide +kernel
theorem dX6_part_69 : decode cX6_part 69 = .ok (.bipush 6, 2) := by decide +kernel
theorem dX6_part_71 : decode cX6_part 71 = .ok (.iload_n 1, 1) := by decide +kernel
theorem dX6_part_72 : decode cX6_part 72 = .ok (.imul, 1) := by decide +kernel
theorem dX6_part_73 : decode cX6_part 73 = .ok (.iload_n 2, 1) := by decide +kernel
theorem dX6_part_74 : decode cX6_part 74 = .ok (.iadd, 1) := by decide +kernel
theorem dX6_part_75 : decode cX6_part 75 = .ok (.iload_n 3, 1) := by decide +kernel
theorem dX6_part_76 : decode cX6_part 76 = .ok (.iastore, 1) := by decide +kernel
theorem dX6_part_77 : decode cX6_part 77 = .ok (.iload 4, 2) := by decide +kernel
theorem dX6_part_79 : decode cX6_part 79 = .ok (.ireturn, 1) := by decide +kernel
set_option maxRecDepth 20000 in
theorem ggX6_make_X6_isItem : GoodIn wsX6_make wsX6_isItem := goodIn_r _ [7, 8, 9, 10, 6, 11, 17, 18, 19, 20, 21, 22, 23, 24, 25, 26, 27, 28, 29, 30, 31, 32, 33, 34, 35, 36, 37, 38, 39, 40, 41] (by decide +kernel) (by decide +kernel)
set_option maxRecDepth 20000 in
theorem gX6_make_X6_isItem : GoodIn wsX6_make (wsV RX6 83 RX6 yX6_isItem wsX6_isItem) := goodIn_app (goodIn_of _ (by decide +kernel)) ggX6_make_X6_isItem
set_option maxRecDepth 20000 in
theorem ggX6_make_X6_isPeriod : GoodIn wsX6_make wsX6_isPeriod := goodIn_r _ [15, 16, 9, 10, 6, 11, 17, 18, 19, 20, 21, 22, 23, 24, 25, 26, 27, 28, 29, 30, 31, 32, 33, 34, 35, 36, 37, 38, 39, 40, 41] (by decide +kernel) (by decide +kernel)
set_option maxRecDepth 20000 in
theorem gX6_make_X6_isPeriod : GoodIn wsX6_make (wsV RX6 91 RX6 yX6_isPeriod wsX6_isPeriod) := goodIn_app (goodIn_of _ (by decide +kernel)) ggX6_make_X6_isPeriod
set_option maxRecDepth 20000 in
theorem ggX6_make_X6_in : GoodIn wsX6_make wsX6_in := goodIn_r _ [11] (by decide +kernel) (by decide +kernel)
set_option maxRecDepth 20000 in
theorem gX6_make_X6_in : GoodIn wsX6_make (va_wsS RX6 79 yX6_in wsX6_in) := goodIn_app (goodIn_of _ (by decide +kernel)) ggX6_make_X6_in
theorem dX6_make_0 : decode cX6_make 0 = .ok (.aload_n 0, 1) := by decide +kernel
theorem dX6_make_1 : decode cX6_make 1 = .ok (.iconst 0, 1) := by decide +kernel
theorem dX6_make_2 : decode cX6_make 2 = .ok (.putfield 73, 3) := by decide +kernel
theorem dX6_make_5 : decode cX6_make 5 = .ok (.aload_n 0, 1) := by decide +kernel
theorem dX6_make_6 : decode cX6_make 6 = .ok (.iload_n 1, 1) := by decide +kernel
theorem dX6_make_7 : decode cX6_make 7 = .ok (.invokevirtual 83, 3) := by decide +kernel
theorem dX6_make_10 : decode cX6_make 10 = .ok (.ifCond .eq 11, 3) := by decide +kernel
theorem dX6_make_13 : decode cX6_make 13 = .ok (.aload_n 0, 1) := by decide +kernel
theorem dX6_make_14 : decode cX6_make 14 = .ok (.iload_n 2, 1) := by decide +kernel
theorem dX6_make_15 : decode cX6_make 15 = .ok (.invokevirtual 91, 3) := by decide +kernel
theorem dX6_make_18 : decode cX6_make 18 = .ok (.ifCond .ne 5, 3) := by decide +kernel
theorem dX6_make_21 : decode cX6_make 21 = .ok (.iconst (-1), 1) := by decide +kernel
theorem dX6_make_22 : decode cX6_make 22 = .ok (.ireturn, 1) := by decide +kernel
theorem dX6_make_23 : decode cX6_make 23 = .ok (.iload_n 3, 1) := by decide +kernel
theorem dX6_make_24 : decode cX6_make 24 = .ok (.iconst 0, 1) := by decide +kernel
theorem dX6_make_25 : decode cX6_make 25 = .ok (.sipush 5000, 3) := by decide +kernel
theorem dX6_make_28 : decode cX6_make 28 = .ok (.invokestatic 79, 3) := by decide +kernel
theorem dX6_make_31 : decode cX6_make 31 = .ok (.ifCond .ne 6, 3) := by decide +kernel
theorem dX6_make_34 : decode cX6_make 34 = .ok (.bipush (-2), 2) := by decide +kernel
theorem dX6_make_36 : decode cX6_make 36 = .ok (.ireturn, 1) := by decide +kernel
theorem dX6_make_37 : decode cX6_make 37 = .ok (.aload_n 0, 1) := by decide +kernel
theorem dX6_make_38 : decode cX6_make 38 = .ok (.getfield 16, 3) := by decide +kernel
theorem dX6_make_41 : decode cX6_make 41 = .ok (.bipush 13, 2) := by decide +kernel
theorem dX6_make_43 : decode cX6_make 43 = .ok (.iload_n 1, 1) := by decide +kernel
theorem dX6_make_44 : decode cX6_make 44 = .ok (.imul, 1) := by decide +kernel
theorem dX6_make_45 : decode cX6_make 45 = .ok (.iload_n 2, 1) := by decide +kernel
theorem dX6_make_46 : decode cX6_make 46 = .ok (.iadd, 1) := by decide +kernel
theorem dX6_make_47 : decode cX6_make 47 = .ok (.iaload, 1) := by decide +kernel
theorem dX6_make_48 : decode cX6_make 48 = .ok (.istore 4, 2) := by decide +kernel
theorem dX6_make_50 : decode cX6_make 50 = .ok (.aload_n 0, 1) := by decide +kernel
theorem dX6_make_51 : decode cX6_make 51 = .ok (.getfield 16, 3) := by decide +kernel
theorem dX6_make_54 : decode cX6_make 54 = .ok (.bipush 13, 2) := by decide +kernel
theorem dX6_make_56 : decode cX6_make 56 = .ok (.iload_n 1, 1) := by decide +kernel
theorem dX6_make_57 : decode cX6_make 57 = .ok (.imul, 1) := by decide +kernel
theorem dX6_make_58 : decode cX6_make 58 = .ok (.iload_n 2, 1) := by decide +kernel
theorem dX6_make_59 : decode cX6_make 59 = .ok (.iadd, 1) := by decide +kernel
theorem dX6_make_60 : decode cX6_make 60 = .ok (.iload_n 3, 1) := by decide +kernel
theorem dX6_make_61 : decode cX6_make 61 = .ok (.iastore, 1) := by decide +kernel
theorem dX6_make_62 : decode cX6_make 62 = .ok (.iload 4, 2) := by decide +kernel
theorem dX6_make_64 : decode cX6_make 64 = .ok (.ireturn, 1) := by decide +kernel
set_option maxRecDepth 20000 in
theorem ggX6_capacity_X6_isPeriod : GoodIn wsX6_capacity wsX6_isPeriod := goodIn_r _ [7, 8, 9, 10, 6, 11, 12, 13, 14, 15, 16, 17, 18, 19, 20, 21, 22, 23, 24, 25, 26, 27, 28, 29, 30, 31, 32, 33, 34, 35, 36] (by decide +kernel) (by decide +kernel)
set_option maxRecDepth 20000 in
theorem gX6_capacity_X6_isPeriod : GoodIn wsX6_capacity (wsV RX6 91 RX6 yX6_isPeriod wsX6_isPeriod) := goodIn_app (goodIn_of _ (by decide +kernel)) ggX6_capacity_X6_isPeriod
set_option maxRecDepth 20000 in
theorem ggX6_capacity_X6_in : GoodIn wsX6_capacity wsX6_in := goodIn_r _ [11] (by decide +kernel) (by decide +kernel)
set_option maxRecDepth 20000 in
theorem gX6_capacity_X6_in : GoodIn wsX6_capacity (va_wsS RX6 79 yX6_in wsX6_in) := goodIn_app (goodIn_of _ (by decide +kernel)) ggX6_capacity_X6_in
theorem dX6_capacity_0 : decode cX6_capacity 0 = .ok (.aload_n 0, 1) := by decide +kernel
theorem dX6_capacity_1 : decode cX6_capacity 1 = .ok (.iconst 0, 1) := by decide +kernel
theorem dX6_capacity_2 : decode cX6_capacity 2 = .ok (.putfield 73, 3) := by decide +kernel
theorem dX6_capacity_5 : decode cX6_capacity 5 = .ok (.aload_n 0, 1) := by decide +kernel
theorem dX6_capacity_6 : decode cX6_capacity 6 = .ok (.iload_n 1, 1) := by decide +kernel
theorem dX6_capacity_7 : decode cX6_capacity 7 = .ok (.invokevirtual 91, 3) := by decide +kernel
theorem dX6_capacity_10 : decode cX6_capacity 10 = .ok (.ifCond .ne 5, 3) := by decide +kernel
theorem dX6_capacity_13 : decode cX6_capacity 13 = .ok (.iconst (-1), 1) := by decide +kernel
theorem dX6_capacity_14 : decode cX6_capacity 14 = .ok (.ireturn, 1) := by decide +kernel
theorem dX6_capacity_15 : decode cX6_capacity 15 = .ok (.iload_n 2, 1) := by decide +kernel
theorem dX6_capacity_16 : decode cX6_capacity 16 = .ok (.iconst 0, 1) := by decide +kernel
theorem dX6_capacity_17 : decode cX6_capacity 17 = .ok (.sipush 10000, 3) := by decide +kernel
theorem dX6_capacity_20 : decode cX6_capacity 20 = .ok (.invokestatic 79, 3) := by decide +kernel
theorem dX6_capacity_23 : decode cX6_capacity 23 = .ok (.ifCond .ne 6, 3) := by decide +kernel
theorem dX6_capacity_26 : decode cX6_capacity 26 = .ok (.bipush (-2), 2) := by decide +kernel
theorem dX6_capacity_28 : decode cX6_capacity 28 = .ok (.ireturn, 1) := by decide +kernel
theorem dX6_capacity_29 : decode cX6_capacity 29 = .ok (.aload_n 0, 1) := by decide +kernel
theorem dX6_capacity_30 : decode cX6_capacity 30 = .ok (.getfield 22, 3) := by decide +kernel
theorem dX6_capacity_33 : decode cX6_capacity 33 = .ok (.iload_n 1, 1) := by decide +kernel
theorem dX6_capacity_34 : decode cX6_capacity 34 = .ok (.iaload, 1) := by decide +kernel
theorem dX6_capacity_35 : decode cX6_capacity 35 = .ok (.istore_n 3, 1) := by decide +kernel
theorem dX6_capacity_36 : decode cX6_capacity 36 = .ok (.aload_n 0, 1) := by decide +kernel
theorem dX6_capacity_37 : decode cX6_capacity 37 = .ok (.getfield 22, 3) := by decide +kernel
theorem dX6_capacity_40 : decode cX6_capacity 40 = .ok (.iload_n 1, 1) := by decide +kernel
theorem dX6_capacity_41 : decode cX6_capacity 41 = .ok (.iload_n 2, 1) := by decide +kernel
theorem dX6_capacity_42 : decode cX6_capacity 42 = .ok (.iastore, 1) := by decide +kernel
theorem dX6_capacity_43 : decode cX6_capacity 43 = .ok (.iload_n 3, 1) := by decide +kernel
theorem dX6_capacity_44 : decode cX6_capacity 44 = .ok (.ireturn, 1) := by decide +kernel
set_option maxRecDepth 20000 in
theorem ggX6_over_X6_in : GoodIn wsX6_over wsX6_in := goodIn_r _ [7] (by decide +kernel) (by decide +kernel)
set_option maxRecDepth 20000 in
theorem gX6_over_X6_in : GoodIn wsX6_over (va_wsS RX6 79 yX6_in wsX6_in) := goodIn_app (goodIn_of _ (by decide +kernel)) ggX6_over_X6_in
theorem dX6_over_0 : decode cX6_over 0 = .ok (.aload_n 0, 1) := by decide +kernel
theorem dX6_over_1 : decode cX6_over 1 = .ok (.iconst 0, 1) := by decide +kernel
theorem dX6_over_2 : decode cX6_over 2 = .ok (.putfield 73, 3) := by decide +kernel
theorem dX6_over_5 : decode cX6_over 5 = .ok (.iload_n 1, 1) := by decide +kernel
theorem dX6_over_6 : decode cX6_over 6 = .ok (.iconst 0, 1) := by decide +kernel
theorem dX6_over_7 : decode cX6_over 7 = .ok (.iconst 1, 1) := by decide +kernel
theorem dX6_over_8 : decode cX6_over 8 = .ok (.invokestatic 79, 3) := by decide +kernel
theorem dX6_over_11 : decode cX6_over 11 = .ok (.ifCond .eq 23, 3) := by decide +kernel
theorem dX6_over_14 : decode cX6_over 14 = .ok (.iload_n 2, 1) := by decide +kernel
theorem dX6_over_15 : decode cX6_over 15 = .ok (.iconst 0, 1) := by decide +kernel
theorem dX6_over_16 : decode cX6_over 16 = .ok (.iload_n 1, 1) := by decide +kernel
theorem dX6_over_17 : decode cX6_over 17 = .ok (.ifCond .ne 8, 3) := by decide +kernel
theorem dX6_over_20 : decode cX6_over 20 = .ok (.bipush 100, 2) := by decide +kernel
theorem dX6_over_22 : decode cX6_over 22 = .ok (.goto 6, 3) := by decide +kernel
theorem dX6_over_25 : decode cX6_over 25 = .ok (.sipush 10000, 3) := by decide +kernel
theorem dX6_over_28 : decode cX6_over 28 = .ok (.invokestatic 79, 3) := by decide +kernel
theorem dX6_over_31 : decode cX6_over 31 = .ok (.ifCond .ne 6, 3) := by decide +kernel
theorem dX6_over_34 : decode cX6_over 34 = .ok (.bipush (-2), 2) := by decide +kernel
theorem dX6_over_36 : decode cX6_over 36 = .ok (.ireturn, 1) := by decide +kernel
theorem dX6_over_37 : decode cX6_over 37 = .ok (.iload_n 1, 1) := by decide +kernel
theorem dX6_over_38 : decode cX6_over 38 = .ok (.ifCond .ne 10, 3) := by decide +kernel
theorem dX6_over_41 : decode cX6_over 41 = .ok (.aload_n 0, 1) := by decide +kernel
theorem dX6_over_42 : decode cX6_over 42 = .ok (.getfield 98, 3) := by decide +kernel
theorem dX6_over_45 : decode cX6_over 45 = .ok (.goto 7, 3) := by decide +kernel
theorem dX6_over_48 : decode cX6_over 48 = .ok (.aload_n 0, 1) := by decide +kernel
theorem dX6_over_49 : decode cX6_over 49 = .ok (.getfield 101, 3) := by decide +kernel
theorem dX6_over_52 : decode cX6_over 52 = .ok (.istore_n 3, 1) := by decide +kernel
theorem dX6_over_53 : decode cX6_over 53 = .ok (.aload_n 0, 1) := by decide +kernel
theorem dX6_over_54 : decode cX6_over 54 = .ok (.iload_n 1, 1) := by decide +kernel
theorem dX6_over_55 : decode cX6_over 55 = .ok (.ifCond .ne 7, 3) := by decide +kernel
theorem dX6_over_58 : decode cX6_over 58 = .ok (.iload_n 2, 1) := by decide +kernel
theorem dX6_over_59 : decode cX6_over 59 = .ok (.goto 7, 3) := by decide +kernel
theorem dX6_over_62 : decode cX6_over 62 = .ok (.aload_n 0, 1) := by decide +kernel
theorem dX6_over_63 : decode cX6_over 63 = .ok (.getfield 98, 3) := by decide +kernel
theorem dX6_over_66 : decode cX6_over 66 = .ok (.putfield 98, 3) := by decide +kernel
theorem dX6_over_69 : decode cX6_over 69 = .ok (.aload_n 0, 1) := by decide +kernel
theorem dX6_over_70 : decode cX6_over 70 = .ok (.iload_n 1, 1) := by decide +kernel
theorem dX6_over_71 : decode cX6_over 71 = .ok (.iconst 1, 1) := by decide +kernel
theorem dX6_over_72 : decode cX6_over 72 = .ok (.if_icmp .ne 7, 3) := by decide +kernel
theorem dX6_over_75 : decode cX6_over 75 = .ok (.iload_n 2, 1) := by decide +kernel
theorem dX6_over_76 : decode cX6_over 76 = .ok (.goto 7, 3) := by decide +kernel
theorem dX6_over_79 : decode cX6_over 79 = .ok (.aload_n 0, 1) := by decide +kernel
theorem dX6_over_80 : decode cX6_over 80 = .ok (.getfield 101, 3) := by decide +kernel
theorem dX6_over_83 : decode cX6_over 83 = .ok (.putfield 101, 3) := by decide +kernel
theorem dX6_over_86 : decode cX6_over 86 = .ok (.iload_n 3, 1) := by decide +kernel
theorem dX6_over_87 : decode cX6_over 87 = .ok (.ireturn, 1) := by decide +kernel
theorem dX6_grossOf_0 : decode cX6_grossOf 0 = .ok (.aload_n 0, 1) := by decide +kernel
theorem dX6_grossOf_1 : decode cX6_grossOf 1 = .ok (.getfield 13, 3) := by decide +kernel
theorem dX6_grossOf_4 : decode cX6_grossOf 4 = .ok (.bipush 13, 2) := by decide +kernel
theorem dX6_grossOf_6 : decode cX6_grossOf 6 = .ok (.iload_n 1, 1) := by decide +kernel
theorem dX6_grossOf_7 : decode cX6_grossOf 7 = .ok (.imul, 1) := by decide +kernel
theorem dX6_grossOf_8 : decode cX6_grossOf 8 = .ok (.iload_n 2, 1) := by decide +kernel
theorem dX6_grossOf_9 : decode cX6_grossOf 9 = .ok (.iadd, 1) := by decide +kernel
theorem dX6_grossOf_10 : decode cX6_grossOf 10 = .ok (.iaload, 1) := by decide +kernel
theorem dX6_grossOf_11 : decode cX6_grossOf 11 = .ok (.istore_n 3, 1) := by decide +kernel
theorem dX6_grossOf_12 : decode cX6_grossOf 12 = .ok (.iconst 0, 1) := by decide +kernel
theorem dX6_grossOf_13 : decode cX6_grossOf 13 = .ok (.istore 4, 2) := by decide +kernel
theorem dX6_grossOf_15 : decode cX6_grossOf 15 = .ok (.iload 4, 2) := by decide +kernel
theorem dX6_grossOf_17 : decode cX6_grossOf 17 = .ok (.aload_n 0, 1) := by decide +kernel
theorem dX6_grossOf_18 : decode cX6_grossOf 18 = .ok (.getfield 76, 3) := by decide +kernel
theorem dX6_grossOf_21 : decode cX6_grossOf 21 = .ok (.if_icmp .ge 37, 3) := by decide +kernel
theorem dX6_grossOf_24 : decode cX6_grossOf 24 = .ok (.iload_n 3, 1) := by decide +kernel
theorem dX6_grossOf_25 : decode cX6_grossOf 25 = .ok (.aload_n 0, 1) := by decide +kernel
theorem dX6_grossOf_26 : decode cX6_grossOf 26 = .ok (.getfield 19, 3) := by decide +kernel
theorem dX6_grossOf_29 : decode cX6_grossOf 29 = .ok (.bipush 6, 2) := by decide +kernel
theorem dX6_grossOf_31 : decode cX6_grossOf 31 = .ok (.iload_n 1, 1) := by decide +kernel
theorem dX6_grossOf_32 : decode cX6_grossOf 32 = .ok (.imul, 1) := by decide +kernel
theorem dX6_grossOf_33 : decode cX6_grossOf 33 = .ok (.iload 4, 2) := by decide +kernel
theorem dX6_grossOf_35 : decode cX6_grossOf 35 = .ok (.iadd, 1) := by decide +kernel
theorem dX6_grossOf_36 : decode cX6_grossOf 36 = .ok (.iaload, 1) := by decide +kernel
theorem dX6_grossOf_37 : decode cX6_grossOf 37 = .ok (.aload_n 0, 1) := by decide +kernel
theorem dX6_grossOf_38 : decode cX6_grossOf 38 = .ok (.getfield 16, 3) := by decide +kernel
theorem dX6_grossOf_41 : decode cX6_grossOf 41 = .ok (.bipush 13, 2) := by decide +kernel
theorem dX6_grossOf_43 : decode cX6_grossOf 43 = .ok (.iload 4, 2) := by decide +kernel
theorem dX6_grossOf_45 : decode cX6_grossOf 45 = .ok (.imul, 1) := by decide +kernel
theorem dX6_grossOf_46 : decode cX6_grossOf 46 = .ok (.iload_n 2, 1) := by decide +kernel
theorem dX6_grossOf_47 : decode cX6_grossOf 47 = .ok (.iadd, 1) := by decide +kernel
theorem dX6_grossOf_48 : decode cX6_grossOf 48 = .ok (.iaload, 1) := by decide +kernel
theorem dX6_grossOf_49 : decode cX6_grossOf 49 = .ok (.imul, 1) := by decide +kernel
theorem dX6_grossOf_50 : decode cX6_grossOf 50 = .ok (.iadd, 1) := by decide +kernel
theorem dX6_grossOf_51 : decode cX6_grossOf 51 = .ok (.istore_n 3, 1) := by decide +kernel
theorem dX6_grossOf_52 : decode cX6_grossOf 52 = .ok (.iinc 4 1, 3) := by decide +kernel
theorem dX6_grossOf_55 : decode cX6_grossOf 55 = .ok (.goto (-40), 3) := by decide +kernel
theorem dX6_grossOf_58 : decode cX6_grossOf 58 = .ok (.iload_n 3, 1) := by decide +kernel
theorem dX6_grossOf_59 : decode cX6_grossOf 59 = .ok (.ireturn, 1) := by decide +kernel
set_option maxRecDepth 20000 in
theorem ggX6_gross_X6_isItem : GoodIn wsX6_gross wsX6_isItem := goodIn_r _ [6, 7, 8, 9, 5, 10, 23, 24, 25, 26, 27, 28, 29, 30, 31, 32, 33, 34, 35, 36, 37, 38, 39, 40, 41, 42, 43, 44, 45, 46, 47] (by decide +kernel) (by decide +kernel)
set_option maxRecDepth 20000 in
theorem gX6_gross_X6_isItem : GoodIn wsX6_gross (wsV RX6 83 RX6 yX6_isItem wsX6_isItem) := goodIn_app (goodIn_of _ (by decide +kernel)) ggX6_gross_X6_isItem
set_option maxRecDepth 20000 in
theorem ggX6_gross_X6_isPeriod : GoodIn wsX6_gross wsX6_isPeriod := goodIn_r _ [14, 15, 8, 9, 5, 10, 23, 24, 25, 26, 27, 28, 29, 30, 31, 32, 33, 34, 35, 36, 37, 38, 39, 40, 41, 42, 43, 44, 45, 46, 47] (by decide +kernel) (by decide +kernel)
set_option maxRecDepth 20000 in
theorem gX6_gross_X6_isPeriod : GoodIn wsX6_gross (wsV RX6 91 RX6 yX6_isPeriod wsX6_isPeriod) := goodIn_app (goodIn_of _ (by decide +kernel)) ggX6_gross_X6_isPeriod
set_option maxRecDepth 20000 in
theorem ggX6_gross_X6_grossOf : GoodIn wsX6_gross wsX6_grossOf := goodIn_r _ [19, 20, 7, 21, 22, 23, 24, 25, 26, 27, 28, 29, 30, 31, 32, 33, 34, 35, 36, 37, 38, 39, 40, 41, 42, 43, 44, 45, 46, 47] (by decide +kernel) (by decide +kernel)
set_option maxRecDepth 20000 in
theorem gX6_gross_X6_grossOf : GoodIn wsX6_gross (wsV RX6 104 RX6 yX6_grossOf wsX6_grossOf) := goodIn_app (goodIn_of _ (by decide +kernel)) ggX6_gross_X6_grossOf
theorem dX6_gross_0 : decode cX6_gross 0 = .ok (.aload_n 0, 1) := by decide +kernel
theorem dX6_gross_1 : decode cX6_gross 1 = .ok (.iconst 0, 1) := by decide +kernel
theorem dX6_gross_2 : decode cX6_gross 2 = .ok (.putfield 73, 3) := by decide +kernel
theorem dX6_gross_5 : decode cX6_gross 5 = .ok (.aload_n 0, 1) := by decide +kernel
theorem dX6_gross_6 : decode cX6_gross 6 = .ok (.iload_n 1, 1) := by decide +kernel
theorem dX6_gross_7 : decode cX6_gross 7 = .ok (.invokevirtual 83, 3) := by decide +kernel
theorem dX6_gross_10 : decode cX6_gross 10 = .ok (.ifCond .eq 20, 3) := by decide +kernel
theorem dX6_gross_13 : decode cX6_gross 13 = .ok (.aload_n 0, 1) := by decide +kernel
theorem dX6_gross_14 : decode cX6_gross 14 = .ok (.iload_n 2, 1) := by decide +kernel
theorem dX6_gross_15 : decode cX6_gross 15 = .ok (.invokevirtual 91, 3) := by decide +kernel
theorem dX6_gross_18 : decode cX6_gross 18 = .ok (.ifCond .eq 12, 3) := by decide +kernel
theorem dX6_gross_21 : decode cX6_gross 21 = .ok (.aload_n 0, 1) := by decide +kernel
theorem dX6_gross_22 : decode cX6_gross 22 = .ok (.iload_n 1, 1) := by decide +kernel
theorem dX6_gross_23 : decode cX6_gross 23 = .ok (.iload_n 2, 1) := by decide +kernel
theorem dX6_gross_24 : decode cX6_gross 24 = .ok (.invokevirtual 104, 3) := by decide +kernel
theorem dX6_gross_27 : decode cX6_gross 27 = .ok (.goto 4, 3) := by decide +kernel
theorem dX6_gross_30 : decode cX6_gross 30 = .ok (.iconst (-1), 1) := by decide +kernel
theorem dX6_gross_31 : decode cX6_gross 31 = .ok (.ireturn, 1) := by decide +kernel
set_option maxRecDepth 20000 in
theorem ggX6_run_X6_grossOf : GoodIn wsX6_run wsX6_grossOf := goodIn_r _ [12, 13, 14, 15, 7, 16, 17, 18, 19, 20, 21, 22, 23, 24, 25, 26, 27, 28, 29, 30, 31, 32, 33, 34, 35, 36, 37, 38, 39, 40] (by decide +kernel) (by decide +kernel)
set_option maxRecDepth 20000 in
theorem gX6_run_X6_grossOf : GoodIn wsX6_run (wsV RX6 104 RX6 yX6_grossOf wsX6_grossOf) := goodIn_app (goodIn_of _ (by decide +kernel)) ggX6_run_X6_grossOf
theorem dX6_run_0 : decode cX6_run 0 = .ok (.aload_n 0, 1) := by decide +kernel
theorem dX6_run_1 : decode cX6_run 1 = .ok (.getfield 7, 3) := by decide +kernel
theorem dX6_run_4 : decode cX6_run 4 = .ok (.bipush 8, 2) := by decide +kernel
theorem dX6_run_6 : decode cX6_run 6 = .ok (.iload_n 1, 1) := by decide +kernel
theorem dX6_run_7 : decode cX6_run 7 = .ok (.imul, 1) := by decide +kernel
theorem dX6_run_8 : decode cX6_run 8 = .ok (.iconst 3, 1) := by decide +kernel
theorem dX6_run_9 : decode cX6_run 9 = .ok (.iadd, 1) := by decide +kernel
theorem dX6_run_10 : decode cX6_run 10 = .ok (.iaload, 1) := by decide +kernel
theorem dX6_run_11 : decode cX6_run 11 = .ok (.istore_n 2, 1) := by decide +kernel
theorem dX6_run_12 : decode cX6_run 12 = .ok (.aload_n 0, 1) := by decide +kernel
theorem dX6_run_13 : decode cX6_run 13 = .ok (.getfield 7, 3) := by decide +kernel
theorem dX6_run_16 : decode cX6_run 16 = .ok (.bipush 8, 2) := by decide +kernel
theorem dX6_run_18 : decode cX6_run 18 = .ok (.iload_n 1, 1) := by decide +kernel
theorem dX6_run_19 : decode cX6_run 19 = .ok (.imul, 1) := by decide +kernel
theorem dX6_run_20 : decode cX6_run 20 = .ok (.bipush 7, 2) := by decide +kernel
theorem dX6_run_22 : decode cX6_run 22 = .ok (.iadd, 1) := by decide +kernel
theorem dX6_run_23 : decode cX6_run 23 = .ok (.iaload, 1) := by decide +kernel
theorem dX6_run_24 : decode cX6_run 24 = .ok (.istore_n 3, 1) := by decide +kernel
theorem dX6_run_25 : decode cX6_run 25 = .ok (.iconst 0, 1) := by decide +kernel
theorem dX6_run_26 : decode cX6_run 26 = .ok (.istore 4, 2) := by decide +kernel
theorem dX6_run_28 : decode cX6_run 28 = .ok (.iload 4, 2) := by decide +kernel
theorem dX6_run_30 : decode cX6_run 30 = .ok (.bipush 13, 2) := by decide +kernel
theorem dX6_run_32 : decode cX6_run 32 = .ok (.if_icmp .ge 41, 3) := by decide +kernel
theorem dX6_run_35 : decode cX6_run 35 = .ok (.aload_n 0, 1) := by decide +kernel
theorem dX6_run_36 : decode cX6_run 36 = .ok (.getfield 29, 3) := by decide +kernel
theorem dX6_run_39 : decode cX6_run 39 = .ok (.iload 4, 2) := by decide +kernel
theorem dX6_run_41 : decode cX6_run 41 = .ok (.lconst 0, 1) := by decide +kernel
theorem dX6_run_42 : decode cX6_run 42 = .ok (.lastore, 1) := by decide +kernel
theorem dX6_run_43 : decode cX6_run 43 = .ok (.aload_n 0, 1) := by decide +kernel
theorem dX6_run_44 : decode cX6_run 44 = .ok (.getfield 33, 3) := by decide +kernel
theorem dX6_run_47 : decode cX6_run 47 = .ok (.iload 4, 2) := by decide +kernel
theorem dX6_run_49 : decode cX6_run 49 = .ok (.lconst 0, 1) := by decide +kernel
theorem dX6_run_50 : decode cX6_run 50 = .ok (.lastore, 1) := by decide +kernel
theorem dX6_run_51 : decode cX6_run 51 = .ok (.aload_n 0, 1) := by decide +kernel
theorem dX6_run_52 : decode cX6_run 52 = .ok (.getfield 36, 3) := by decide +kernel
theorem dX6_run_55 : decode cX6_run 55 = .ok (.iload 4, 2) := by decide +kernel
theorem dX6_run_57 : decode cX6_run 57 = .ok (.lconst 0, 1) := by decide +kernel
theorem dX6_run_58 : decode cX6_run 58 = .ok (.lastore, 1) := by decide +kernel
theorem dX6_run_59 : decode cX6_run 59 = .ok (.aload_n 0, 1) := by decide +kernel
theorem dX6_run_60 : decode cX6_run 60 = .ok (.getfield 39, 3) := by decide +kernel
theorem dX6_run_63 : decode cX6_run 63 = .ok (.iload 4, 2) := by decide +kernel
theorem dX6_run_65 : decode cX6_run 65 = .ok (.lconst 0, 1) := by decide +kernel
theorem dX6_run_66 : decode cX6_run 66 = .ok (.lastore, 1) := by decide +kernel
theorem dX6_run_67 : decode cX6_run 67 = .ok (.iinc 4 1, 3) := by decide +kernel
theorem dX6_run_70 : decode cX6_run 70 = .ok (.goto (-42), 3) := by decide +kernel
theorem dX6_run_73 : decode cX6_run 73 = .ok (.aload_n 0, 1) := by decide +kernel
theorem dX6_run_74 : decode cX6_run 74 = .ok (.getfield 29, 3) := by decide +kernel
theorem dX6_run_77 : decode cX6_run 77 = .ok (.iconst 0, 1) := by decide +kernel
theorem dX6_run_78 : decode cX6_run 78 = .ok (.aload_n 0, 1) := by decide +kernel
theorem dX6_run_79 : decode cX6_run 79 = .ok (.getfield 7, 3) := by decide +kernel
theorem dX6_run_82 : decode cX6_run 82 = .ok (.bipush 8, 2) := by decide +kernel
theorem dX6_run_84 : decode cX6_run 84 = .ok (.iload_n 1, 1) := by decide +kernel
theorem dX6_run_85 : decode cX6_run 85 = .ok (.imul, 1) := by decide +kernel
theorem dX6_run_86 : decode cX6_run 86 = .ok (.iconst 4, 1) := by decide +kernel
theorem dX6_run_87 : decode cX6_run 87 = .ok (.iadd, 1) := by decide +kernel
theorem dX6_run_88 : decode cX6_run 88 = .ok (.iaload, 1) := by decide +kernel
theorem dX6_run_89 : decode cX6_run 89 = .ok (.i2l, 1) := by decide +kernel
theorem dX6_run_90 : decode cX6_run 90 = .ok (.lastore, 1) := by decide +kernel
theorem dX6_run_91 : decode cX6_run 91 = .ok (.aload_n 0, 1) := by decide +kernel
theorem dX6_run_92 : decode cX6_run 92 = .ok (.getfield 39, 3) := by decide +kernel
theorem dX6_run_95 : decode cX6_run 95 = .ok (.iconst 0, 1) := by decide +kernel
theorem dX6_run_96 : decode cX6_run 96 = .ok (.aload_n 0, 1) := by decide +kernel
theorem dX6_run_97 : decode cX6_run 97 = .ok (.getfield 29, 3) := by decide +kernel
theorem dX6_run_100 : decode cX6_run 100 = .ok (.iconst 0, 1) := by decide +kernel
theorem dX6_run_101 : decode cX6_run 101 = .ok (.laload, 1) := by decide +kernel
theorem dX6_run_102 : decode cX6_run 102 = .ok (.lastore, 1) := by decide +kernel
theorem dX6_run_103 : decode cX6_run 103 = .ok (.lconst 0, 1) := by decide +kernel
theorem dX6_run_104 : decode cX6_run 104 = .ok (.lstore 4, 2) := by decide +kernel
theorem dX6_run_106 : decode cX6_run 106 = .ok (.iconst 1, 1) := by decide +kernel
theorem dX6_run_107 : decode cX6_run 107 = .ok (.istore 6, 2) := by decide +kernel
theorem dX6_run_109 : decode cX6_run 109 = .ok (.iload 6, 2) := by decide +kernel
theorem dX6_run_111 : decode cX6_run 111 = .ok (.aload_n 0, 1) := by decide +kernel
theorem dX6_run_112 : decode cX6_run 112 = .ok (.getfield 69, 3) := by decide +kernel
theorem dX6_run_115 : decode cX6_run 115 = .ok (.if_icmp .gt 197, 3) := by decide +kernel
theorem dX6_run_118 : decode cX6_run 118 = .ok (.iload 6, 2) := by decide +kernel
theorem dX6_run_120 : decode cX6_run 120 = .ok (.iload_n 3, 1) := by decide +kernel
theorem dX6_run_121 : decode cX6_run 121 = .ok (.isub, 1) := by decide +kernel
theorem dX6_run_122 : decode cX6_run 122 = .ok (.iconst 1, 1) := by decide +kernel
theorem dX6_run_123 : decode cX6_run 123 = .ok (.if_icmp .lt 25, 3) := by decide +kernel
theorem dX6_run_126 : decode cX6_run 126 = .ok (.aload_n 0, 1) := by decide +kernel
theorem dX6_run_127 : decode cX6_run 127 = .ok (.getfield 29, 3) := by decide +kernel
theorem dX6_run_130 : decode cX6_run 130 = .ok (.iload 6, 2) := by decide +kernel
theorem dX6_run_132 : decode cX6_run 132 = .ok (.aload_n 0, 1) := by decide +kernel
theorem dX6_run_133 : decode cX6_run 133 = .ok (.getfield 16, 3) := by decide +kernel
theorem dX6_run_136 : decode cX6_run 136 = .ok (.bipush 13, 2) := by decide +kernel
theorem dX6_run_138 : decode cX6_run 138 = .ok (.iload_n 1, 1) := by decide +kernel
theorem dX6_run_139 : decode cX6_run 139 = .ok (.imul, 1) := by decide +kernel
theorem dX6_run_140 : decode cX6_run 140 = .ok (.iload 6, 2) := by decide +kernel
theorem dX6_run_142 : decode cX6_run 142 = .ok (.iadd, 1) := by decide +kernel
theorem dX6_run_143 : decode cX6_run 143 = .ok (.iload_n 3, 1) := by decide +kernel
theorem dX6_run_144 : decode cX6_run 144 = .ok (.isub, 1) := by decide +kernel
theorem dX6_run_145 : decode cX6_run 145 = .ok (.iaload, 1) := by decide +kernel
theorem dX6_run_146 : decode cX6_run 146 = .ok (.i2l, 1) := by decide +kernel
theorem dX6_run_147 : decode cX6_run 147 = .ok (.lastore, 1) := by decide +kernel
theorem dX6_run_148 : decode cX6_run 148 = .ok (.lload 4, 2) := by decide +kernel
theorem dX6_run_150 : decode cX6_run 150 = .ok (.aload_n 0, 1) := by decide +kernel
theorem dX6_run_151 : decode cX6_run 151 = .ok (.iload_n 1, 1) := by decide +kernel
theorem dX6_run_152 : decode cX6_run 152 = .ok (.iload 6, 2) := by decide +kernel
theorem dX6_run_154 : decode cX6_run 154 = .ok (.invokevirtual 104, 3) := by decide +kernel
theorem dX6_run_157 : decode cX6_run 157 = .ok (.i2l, 1) := by decide +kernel
theorem dX6_run_158 : decode cX6_run 158 = .ok (.ladd, 1) := by decide +kernel
theorem dX6_run_159 : decode cX6_run 159 = .ok (.lstore 7, 2) := by decide +kernel
theorem dX6_run_161 : decode cX6_run 161 = .ok (.iconst 0, 1) := by decide +kernel
theorem dX6_run_162 : decode cX6_run 162 = .ok (.istore 9, 2) := by decide +kernel
theorem dX6_run_164 : decode cX6_run 164 = .ok (.iload 9, 2) := by decide +kernel
theorem dX6_run_166 : decode cX6_run 166 = .ok (.iload 6, 2) := by decide +kernel
theorem dX6_run_168 : decode cX6_run 168 = .ok (.if_icmp .gt 55, 3) := by decide +kernel
theorem dX6_run_171 : decode cX6_run 171 = .ok (.aload_n 0, 1) := by decide +kernel
theorem dX6_run_172 : decode cX6_run 172 = .ok (.getfield 29, 3) := by decide +kernel
theorem dX6_run_175 : decode cX6_run 175 = .ok (.iload 9, 2) := by decide +kernel
theorem dX6_run_177 : decode cX6_run 177 = .ok (.laload, 1) := by decide +kernel
theorem dX6_run_178 : decode cX6_run 178 = .ok (.lload 7, 2) := by decide +kernel
theorem dX6_run_180 : decode cX6_run 180 = .ok (.lcmp, 1) := by decide +kernel
theorem dX6_run_181 : decode cX6_run 181 = .ok (.ifCond .ge 13, 3) := by decide +kernel
theorem dX6_run_184 : decode cX6_run 184 = .ok (.aload_n 0, 1) := by decide +kernel
theorem dX6_run_185 : decode cX6_run 185 = .ok (.getfield 29, 3) := by decide +kernel
theorem dX6_run_188 : decode cX6_run 188 = .ok (.iload 9, 2) := by decide +kernel
theorem dX6_run_190 : decode cX6_run 190 = .ok (.laload, 1) := by decide +kernel
theorem dX6_run_191 : decode cX6_run 191 = .ok (.goto 5, 3) := by decide +kernel
theorem dX6_run_194 : decode cX6_run 194 = .ok (.lload 7, 2) := by decide +kernel
theorem dX6_run_196 : decode cX6_run 196 = .ok (.lstore 10, 2) := by decide +kernel
theorem dX6_run_198 : decode cX6_run 198 = .ok (.aload_n 0, 1) := by decide +kernel
theorem dX6_run_199 : decode cX6_run 199 = .ok (.getfield 29, 3) := by decide +kernel
theorem dX6_run_202 : decode cX6_run 202 = .ok (.iload 9, 2) := by decide +kernel
theorem dX6_run_204 : decode cX6_run 204 = .ok (.dup2, 1) := by decide +kernel
theorem dX6_run_205 : decode cX6_run 205 = .ok (.laload, 1) := by decide +kernel
theorem dX6_run_206 : decode cX6_run 206 = .ok (.lload 10, 2) := by decide +kernel
theorem dX6_run_208 : decode cX6_run 208 = .ok (.lsub, 1) := by decide +kernel
theorem dX6_run_209 : decode cX6_run 209 = .ok (.lastore, 1) := by decide +kernel
theorem dX6_run_210 : decode cX6_run 210 = .ok (.lload 7, 2) := by decide +kernel
theorem dX6_run_212 : decode cX6_run 212 = .ok (.lload 10, 2) := by decide +kernel
theorem dX6_run_214 : decode cX6_run 214 = .ok (.lsub, 1) := by decide +kernel
theorem dX6_run_215 : decode cX6_run 215 = .ok (.lstore 7, 2) := by decide +kernel
theorem dX6_run_217 : decode cX6_run 217 = .ok (.iinc 9 1, 3) := by decide +kernel
theorem dX6_run_220 : decode cX6_run 220 = .ok (.goto (-56), 3) := by decide +kernel
theorem dX6_run_223 : decode cX6_run 223 = .ok (.lload 7, 2) := by decide +kernel
theorem dX6_run_225 : decode cX6_run 225 = .ok (.lstore 4, 2) := by decide +kernel
theorem dX6_run_227 : decode cX6_run 227 = .ok (.aload_n 0, 1) := by decide +kernel
theorem dX6_run_228 : decode cX6_run 228 = .ok (.getfield 33, 3) := by decide +kernel
theorem dX6_run_231 : decode cX6_run 231 = .ok (.iload 6, 2) := by decide +kernel
theorem dX6_run_233 : decode cX6_run 233 = .ok (.lload 4, 2) := by decide +kernel
theorem dX6_run_235 : decode cX6_run 235 = .ok (.lastore, 1) := by decide +kernel
theorem dX6_run_236 : decode cX6_run 236 = .ok (.iload_n 2, 1) := by decide +kernel
theorem dX6_run_237 : decode cX6_run 237 = .ok (.ifCond .le 36, 3) := by decide +kernel
theorem dX6_run_240 : decode cX6_run 240 = .ok (.iload 6, 2) := by decide +kernel
theorem dX6_run_242 : decode cX6_run 242 = .ok (.iload_n 2, 1) := by decide +kernel
theorem dX6_run_243 : decode cX6_run 243 = .ok (.isub, 1) := by decide +kernel
theorem dX6_run_244 : decode cX6_run 244 = .ok (.ifCond .lt 29, 3) := by decide +kernel
theorem dX6_run_247 : decode cX6_run 247 = .ok (.aload_n 0, 1) := by decide +kernel
theorem dX6_run_248 : decode cX6_run 248 = .ok (.getfield 36, 3) := by decide +kernel
theorem dX6_run_251 : decode cX6_run 251 = .ok (.iload 6, 2) := by decide +kernel
theorem dX6_run_253 : decode cX6_run 253 = .ok (.aload_n 0, 1) := by decide +kernel
theorem dX6_run_254 : decode cX6_run 254 = .ok (.getfield 29, 3) := by decide +kernel
theorem dX6_run_257 : decode cX6_run 257 = .ok (.iload 6, 2) := by decide +kernel
theorem dX6_run_259 : decode cX6_run 259 = .ok (.iload_n 2, 1) := by decide +kernel
theorem dX6_run_260 : decode cX6_run 260 = .ok (.isub, 1) := by decide +kernel
theorem dX6_run_261 : decode cX6_run 261 = .ok (.laload, 1) := by decide +kernel
theorem dX6_run_262 : decode cX6_run 262 = .ok (.lastore, 1) := by decide +kernel
theorem dX6_run_263 : decode cX6_run 263 = .ok (.aload_n 0, 1) := by decide +kernel
theorem dX6_run_264 : decode cX6_run 264 = .ok (.getfield 29, 3) := by decide +kernel
theorem dX6_run_267 : decode cX6_run 267 = .ok (.iload 6, 2) := by decide +kernel
theorem dX6_run_269 : decode cX6_run 269 = .ok (.iload_n 2, 1) := by decide +kernel
theorem dX6_run_270 : decode cX6_run 270 = .ok (.isub, 1) := by decide +kernel
theorem dX6_run_271 : decode cX6_run 271 = .ok (.lconst 0, 1) := by decide +kernel
theorem dX6_run_272 : decode cX6_run 272 = .ok (.lastore, 1) := by decide +kernel
theorem dX6_run_273 : decode cX6_run 273 = .ok (.iconst 0, 1) := by decide +kernel
theorem dX6_run_274 : decode cX6_run 274 = .ok (.istore 9, 2) := by decide +kernel
theorem dX6_run_276 : decode cX6_run 276 = .ok (.iload 9, 2) := by decide +kernel
theorem dX6_run_278 : decode cX6_run 278 = .ok (.iload 6, 2) := by decide +kernel
theorem dX6_run_280 : decode cX6_run 280 = .ok (.if_icmp .gt 26, 3) := by decide +kernel
theorem dX6_run_283 : decode cX6_run 283 = .ok (.aload_n 0, 1) := by decide +kernel
theorem dX6_run_284 : decode cX6_run 284 = .ok (.getfield 39, 3) := by decide +kernel
theorem dX6_run_287 : decode cX6_run 287 = .ok (.iload 6, 2) := by decide +kernel
theorem dX6_run_289 : decode cX6_run 289 = .ok (.dup2, 1) := by decide +kernel
theorem dX6_run_290 : decode cX6_run 290 = .ok (.laload, 1) := by decide +kernel
theorem dX6_run_291 : decode cX6_run 291 = .ok (.aload_n 0, 1) := by decide +kernel
theorem dX6_run_292 : decode cX6_run 292 = .ok (.getfield 29, 3) := by decide +kernel
theorem dX6_run_295 : decode cX6_run 295 = .ok (.iload 9, 2) := by decide +kernel
theorem dX6_run_297 : decode cX6_run 297 = .ok (.laload, 1) := by decide +kernel
theorem dX6_run_298 : decode cX6_run 298 = .ok (.ladd, 1) := by decide +kernel
theorem dX6_run_299 : decode cX6_run 299 = .ok (.lastore, 1) := by decide +kernel
theorem dX6_run_300 : decode cX6_run 300 = .ok (.iinc 9 1, 3) := by decide +kernel
theorem dX6_run_303 : decode cX6_run 303 = .ok (.goto (-27), 3) := by decide +kernel
theorem dX6_run_306 : decode cX6_run 306 = .ok (.iinc 6 1, 3) := by decide +kernel
theorem dX6_run_309 : decode cX6_run 309 = .ok (.goto (-200), 3) := by decide +kernel
theorem dX6_run_312 : decode cX6_run 312 = .ok (.return_, 1) := by decide +kernel
set_option maxRecDepth 20000 in
theorem ggX6_stock_X6_isItem : GoodIn wsX6_stock wsX6_isItem := goodIn_r _ [10, 11, 12, 13, 9, 14, 29, 30, 31, 32, 33, 34, 35, 36, 37, 38, 39, 40, 41, 42, 43, 44, 45, 46, 47, 48, 49, 50, 51, 52, 53] (by decide +kernel) (by decide +kernel)
set_option maxRecDepth 20000 in
theorem gX6_stock_X6_isItem : GoodIn wsX6_stock (wsV RX6 83 RX6 yX6_isItem wsX6_isItem) := goodIn_app (goodIn_of _ (by decide +kernel)) ggX6_stock_X6_isItem
set_option maxRecDepth 20000 in
theorem ggX6_stock_X6_in : GoodIn wsX6_stock wsX6_in := goodIn_r _ [14] (by decide +kernel) (by decide +kernel)
set_option maxRecDepth 20000 in
theorem gX6_stock_X6_in : GoodIn wsX6_stock (va_wsS RX6 79 yX6_in wsX6_in) := goodIn_app (goodIn_of _ (by decide +kernel)) ggX6_stock_X6_in
set_option maxRecDepth 20000 in
theorem ggX6_stock_X6_run : GoodIn wsX6_stock wsX6_run := goodIn_r _ [18, 19, 20, 5, 21, 4, 2, 22, 23, 24, 25, 9, 26, 27, 11, 28, 29, 30, 31, 32, 33, 34, 35, 36, 37, 38, 39, 40, 41, 42, 43, 44, 45, 46, 47, 48, 49, 50, 51, 52, 53] (by decide +kernel) (by decide +kernel)
set_option maxRecDepth 20000 in
theorem gX6_stock_X6_run : GoodIn wsX6_stock (wsV RX6 110 RX6 yX6_run wsX6_run) := goodIn_app (goodIn_of _ (by decide +kernel)) ggX6_stock_X6_run
theorem dX6_stock_0 : decode cX6_stock 0 = .ok (.aload_n 0, 1) := by decide +kernel
theorem dX6_stock_1 : decode cX6_stock 1 = .ok (.iconst 0, 1) := by decide +kernel
theorem dX6_stock_2 : decode cX6_stock 2 = .ok (.putfield 73, 3) := by decide +kernel
theorem dX6_stock_5 : decode cX6_stock 5 = .ok (.aload_n 0, 1) := by decide +kernel
theorem dX6_stock_6 : decode cX6_stock 6 = .ok (.iload_n 1, 1) := by decide +kernel
theorem dX6_stock_7 : decode cX6_stock 7 = .ok (.invokevirtual 83, 3) := by decide +kernel
theorem dX6_stock_10 : decode cX6_stock 10 = .ok (.ifCond .eq 15, 3) := by decide +kernel
theorem dX6_stock_13 : decode cX6_stock 13 = .ok (.iload_n 2, 1) := by decide +kernel
theorem dX6_stock_14 : decode cX6_stock 14 = .ok (.iconst 0, 1) := by decide +kernel
theorem dX6_stock_15 : decode cX6_stock 15 = .ok (.aload_n 0, 1) := by decide +kernel
theorem dX6_stock_16 : decode cX6_stock 16 = .ok (.getfield 69, 3) := by decide +kernel
theorem dX6_stock_19 : decode cX6_stock 19 = .ok (.invokestatic 79, 3) := by decide +kernel
theorem dX6_stock_22 : decode cX6_stock 22 = .ok (.ifCond .ne 7, 3) := by decide +kernel
theorem dX6_stock_25 : decode cX6_stock 25 = .ok (.ldc2_w 108, 3) := by decide +kernel
theorem dX6_stock_28 : decode cX6_stock 28 = .ok (.lreturn, 1) := by decide +kernel
theorem dX6_stock_29 : decode cX6_stock 29 = .ok (.aload_n 0, 1) := by decide +kernel
theorem dX6_stock_30 : decode cX6_stock 30 = .ok (.iload_n 1, 1) := by decide +kernel
theorem dX6_stock_31 : decode cX6_stock 31 = .ok (.invokevirtual 110, 3) := by decide +kernel
theorem dX6_stock_34 : decode cX6_stock 34 = .ok (.aload_n 0, 1) := by decide +kernel
theorem dX6_stock_35 : decode cX6_stock 35 = .ok (.getfield 39, 3) := by decide +kernel
theorem dX6_stock_38 : decode cX6_stock 38 = .ok (.iload_n 2, 1) := by decide +kernel
theorem dX6_stock_39 : decode cX6_stock 39 = .ok (.laload, 1) := by decide +kernel
theorem dX6_stock_40 : decode cX6_stock 40 = .ok (.aload_n 0, 1) := by decide +kernel
theorem dX6_stock_41 : decode cX6_stock 41 = .ok (.getfield 33, 3) := by decide +kernel
theorem dX6_stock_44 : decode cX6_stock 44 = .ok (.iload_n 2, 1) := by decide +kernel
theorem dX6_stock_45 : decode cX6_stock 45 = .ok (.laload, 1) := by decide +kernel
theorem dX6_stock_46 : decode cX6_stock 46 = .ok (.lsub, 1) := by decide +kernel
theorem dX6_stock_47 : decode cX6_stock 47 = .ok (.lreturn, 1) := by decide +kernel
set_option maxRecDepth 20000 in
theorem ggX6_spoilt_X6_isItem : GoodIn wsX6_spoilt wsX6_isItem := goodIn_r _ [7, 8, 9, 10, 6, 11, 32, 33, 34, 35, 36, 37, 38, 39, 40, 41, 42, 43, 44, 45, 46, 47, 48, 49, 50, 51, 52, 53, 54, 55, 56] (by decide +kernel) (by decide +kernel)
set_option maxRecDepth 20000 in
theorem gX6_spoilt_X6_isItem : GoodIn wsX6_spoilt (wsV RX6 83 RX6 yX6_isItem wsX6_isItem) := goodIn_app (goodIn_of _ (by decide +kernel)) ggX6_spoilt_X6_isItem
set_option maxRecDepth 20000 in
theorem ggX6_spoilt_X6_isPeriod : GoodIn wsX6_spoilt wsX6_isPeriod := goodIn_r _ [15, 16, 9, 10, 6, 11, 32, 33, 34, 35, 36, 37, 38, 39, 40, 41, 42, 43, 44, 45, 46, 47, 48, 49, 50, 51, 52, 53, 54, 55, 56] (by decide +kernel) (by decide +kernel)
set_option maxRecDepth 20000 in
theorem gX6_spoilt_X6_isPeriod : GoodIn wsX6_spoilt (wsV RX6 91 RX6 yX6_isPeriod wsX6_isPeriod) := goodIn_app (goodIn_of _ (by decide +kernel)) ggX6_spoilt_X6_isPeriod
set_option maxRecDepth 20000 in
theorem ggX6_spoilt_X6_run : GoodIn wsX6_spoilt wsX6_run := goodIn_r _ [20, 21, 22, 23, 2, 24, 16, 25, 26, 27, 28, 6, 29, 30, 8, 31, 32, 33, 34, 35, 36, 37, 38, 39, 40, 41, 42, 43, 44, 45, 46, 47, 48, 49, 50, 51, 52, 53, 54, 55, 56] (by decide +kernel) (by decide +kernel)
set_option maxRecDepth 20000 in
theorem gX6_spoilt_X6_run : GoodIn wsX6_spoilt (wsV RX6 110 RX6 yX6_run wsX6_run) := goodIn_app (goodIn_of _ (by decide +kernel)) ggX6_spoilt_X6_run
theorem dX6_spoilt_0 : decode cX6_spoilt 0 = .ok (.aload_n 0, 1) := by decide +kernel
theorem dX6_spoilt_1 : decode cX6_spoilt 1 = .ok (.iconst 0, 1) := by decide +kernel
theorem dX6_spoilt_2 : decode cX6_spoilt 2 = .ok (.putfield 73, 3) := by decide +kernel
theorem dX6_spoilt_5 : decode cX6_spoilt 5 = .ok (.aload_n 0, 1) := by decide +kernel
theorem dX6_spoilt_6 : decode cX6_spoilt 6 = .ok (.iload_n 1, 1) := by decide +kernel
theorem dX6_spoilt_7 : decode cX6_spoilt 7 = .ok (.invokevirtual 83, 3) := by decide +kernel
theorem dX6_spoilt_10 : decode cX6_spoilt 10 = .ok (.ifCond .eq 11, 3) := by decide +kernel
theorem dX6_spoilt_13 : decode cX6_spoilt 13 = .ok (.aload_n 0, 1) := by decide +kernel
theorem dX6_spoilt_14 : decode cX6_spoilt 14 = .ok (.iload_n 2, 1) := by decide +kernel
theorem dX6_spoilt_15 : decode cX6_spoilt 15 = .ok (.invokevirtual 91, 3) := by decide +kernel
theorem dX6_spoilt_18 : decode cX6_spoilt 18 = .ok (.ifCond .ne 5, 3) := by decide +kernel
theorem dX6_spoilt_21 : decode cX6_spoilt 21 = .ok (.iconst (-1), 1) := by decide +kernel
theorem dX6_spoilt_22 : decode cX6_spoilt 22 = .ok (.ireturn, 1) := by decide +kernel
theorem dX6_spoilt_23 : decode cX6_spoilt 23 = .ok (.aload_n 0, 1) := by decide +kernel
theorem dX6_spoilt_24 : decode cX6_spoilt 24 = .ok (.iload_n 1, 1) := by decide +kernel
theorem dX6_spoilt_25 : decode cX6_spoilt 25 = .ok (.invokevirtual 110, 3) := by decide +kernel
theorem dX6_spoilt_28 : decode cX6_spoilt 28 = .ok (.aload_n 0, 1) := by decide +kernel
theorem dX6_spoilt_29 : decode cX6_spoilt 29 = .ok (.getfield 36, 3) := by decide +kernel
theorem dX6_spoilt_32 : decode cX6_spoilt 32 = .ok (.iload_n 2, 1) := by decide +kernel
theorem dX6_spoilt_33 : decode cX6_spoilt 33 = .ok (.laload, 1) := by decide +kernel
theorem dX6_spoilt_34 : decode cX6_spoilt 34 = .ok (.l2i, 1) := by decide +kernel
theorem dX6_spoilt_35 : decode cX6_spoilt 35 = .ok (.ireturn, 1) := by decide +kernel
theorem dX6_machine_0 : decode cX6_machine 0 = .ok (.aload_n 0, 1) := by decide +kernel
theorem dX6_machine_1 : decode cX6_machine 1 = .ok (.getfield 42, 3) := by decide +kernel
theorem dX6_machine_4 : decode cX6_machine 4 = .ok (.iconst 0, 1) := by decide +kernel
theorem dX6_machine_5 : decode cX6_machine 5 = .ok (.bipush (-3), 2) := by decide +kernel
theorem dX6_machine_7 : decode cX6_machine 7 = .ok (.iastore, 1) := by decide +kernel
theorem dX6_machine_8 : decode cX6_machine 8 = .ok (.iconst 1, 1) := by decide +kernel
theorem dX6_machine_9 : decode cX6_machine 9 = .ok (.istore_n 1, 1) := by decide +kernel
theorem dX6_machine_10 : decode cX6_machine 10 = .ok (.iload_n 1, 1) := by decide +kernel
theorem dX6_machine_11 : decode cX6_machine 11 = .ok (.aload_n 0, 1) := by decide +kernel
theorem dX6_machine_12 : decode cX6_machine 12 = .ok (.getfield 69, 3) := by decide +kernel
theorem dX6_machine_15 : decode cX6_machine 15 = .ok (.if_icmp .gt 121, 3) := by decide +kernel
theorem dX6_machine_18 : decode cX6_machine 18 = .ok (.aload_n 0, 1) := by decide +kernel
theorem dX6_machine_19 : decode cX6_machine 19 = .ok (.getfield 42, 3) := by decide +kernel
theorem dX6_machine_22 : decode cX6_machine 22 = .ok (.iload_n 1, 1) := by decide +kernel
theorem dX6_machine_23 : decode cX6_machine 23 = .ok (.aload_n 0, 1) := by decide +kernel
theorem dX6_machine_24 : decode cX6_machine 24 = .ok (.getfield 42, 3) := by decide +kernel
theorem dX6_machine_27 : decode cX6_machine 27 = .ok (.iload_n 1, 1) := by decide +kernel
theorem dX6_machine_28 : decode cX6_machine 28 = .ok (.iconst 1, 1) := by decide +kernel
theorem dX6_machine_29 : decode cX6_machine 29 = .ok (.isub, 1) := by decide +kernel
theorem dX6_machine_30 : decode cX6_machine 30 = .ok (.iaload, 1) := by decide +kernel
theorem dX6_machine_31 : decode cX6_machine 31 = .ok (.iastore, 1) := by decide +kernel
theorem dX6_machine_32 : decode cX6_machine 32 = .ok (.iconst 0, 1) := by decide +kernel
theorem dX6_machine_33 : decode cX6_machine 33 = .ok (.istore_n 2, 1) := by decide +kernel
theorem dX6_machine_34 : decode cX6_machine 34 = .ok (.iload_n 2, 1) := by decide +kernel
theorem dX6_machine_35 : decode cX6_machine 35 = .ok (.aload_n 0, 1) := by decide +kernel
theorem dX6_machine_36 : decode cX6_machine 36 = .ok (.getfield 76, 3) := by decide +kernel
theorem dX6_machine_39 : decode cX6_machine 39 = .ok (.if_icmp .ge 91, 3) := by decide +kernel
theorem dX6_machine_42 : decode cX6_machine 42 = .ok (.aload_n 0, 1) := by decide +kernel
theorem dX6_machine_43 : decode cX6_machine 43 = .ok (.getfield 16, 3) := by decide +kernel
theorem dX6_machine_46 : decode cX6_machine 46 = .ok (.bipush 13, 2) := by decide +kernel
theorem dX6_machine_48 : decode cX6_machine 48 = .ok (.iload_n 2, 1) := by decide +kernel
theorem dX6_machine_49 : decode cX6_machine 49 = .ok (.imul, 1) := by decide +kernel
theorem dX6_machine_50 : decode cX6_machine 50 = .ok (.iload_n 1, 1) := by decide +kernel
theorem dX6_machine_51 : decode cX6_machine 51 = .ok (.iadd, 1) := by decide +kernel
theorem dX6_machine_52 : decode cX6_machine 52 = .ok (.iaload, 1) := by decide +kernel
theorem dX6_machine_53 : decode cX6_machine 53 = .ok (.ifCond .le 7, 3) := by decide +kernel
theorem dX6_machine_56 : decode cX6_machine 56 = .ok (.iconst 1, 1) := by decide +kernel
theorem dX6_machine_57 : decode cX6_machine 57 = .ok (.goto 4, 3) := by decide +kernel
theorem dX6_machine_60 : decode cX6_machine 60 = .ok (.iconst 0, 1) := by decide +kernel
theorem dX6_machine_61 : decode cX6_machine 61 = .ok (.istore_n 3, 1) := by decide +kernel
theorem dX6_machine_62 : decode cX6_machine 62 = .ok (.aload_n 0, 1) := by decide +kernel
theorem dX6_machine_63 : decode cX6_machine 63 = .ok (.getfield 45, 3) := by decide +kernel
theorem dX6_machine_66 : decode cX6_machine 66 = .ok (.bipush 13, 2) := by decide +kernel
theorem dX6_machine_68 : decode cX6_machine 68 = .ok (.iload_n 2, 1) := by decide +kernel
theorem dX6_machine_69 : decode cX6_machine 69 = .ok (.imul, 1) := by decide +kernel
theorem dX6_machine_70 : decode cX6_machine 70 = .ok (.iload_n 1, 1) := by decide +kernel
theorem dX6_machine_71 : decode cX6_machine 71 = .ok (.iadd, 1) := by decide +kernel
theorem dX6_machine_72 : decode cX6_machine 72 = .ok (.iload_n 3, 1) := by decide +kernel
theorem dX6_machine_73 : decode cX6_machine 73 = .ok (.ifCond .eq 19, 3) := by decide +kernel
theorem dX6_machine_76 : decode cX6_machine 76 = .ok (.iload_n 2, 1) := by decide +kernel
theorem dX6_machine_77 : decode cX6_machine 77 = .ok (.aload_n 0, 1) := by decide +kernel
theorem dX6_machine_78 : decode cX6_machine 78 = .ok (.getfield 42, 3) := by decide +kernel
theorem dX6_machine_81 : decode cX6_machine 81 = .ok (.iload_n 1, 1) := by decide +kernel
theorem dX6_machine_82 : decode cX6_machine 82 = .ok (.iconst 1, 1) := by decide +kernel
theorem dX6_machine_83 : decode cX6_machine 83 = .ok (.isub, 1) := by decide +kernel
theorem dX6_machine_84 : decode cX6_machine 84 = .ok (.iaload, 1) := by decide +kernel
theorem dX6_machine_85 : decode cX6_machine 85 = .ok (.if_icmp .eq 7, 3) := by decide +kernel
theorem dX6_machine_88 : decode cX6_machine 88 = .ok (.iconst 1, 1) := by decide +kernel
theorem dX6_machine_89 : decode cX6_machine 89 = .ok (.goto 4, 3) := by decide +kernel
theorem dX6_machine_92 : decode cX6_machine 92 = .ok (.iconst 0, 1) := by decide +kernel
theorem dX6_machine_93 : decode cX6_machine 93 = .ok (.bastore, 1) := by decide +kernel
theorem dX6_machine_94 : decode cX6_machine 94 = .ok (.aload_n 0, 1) := by decide +kernel
theorem dX6_machine_95 : decode cX6_machine 95 = .ok (.getfield 42, 3) := by decide +kernel
theorem dX6_machine_98 : decode cX6_machine 98 = .ok (.iload_n 1, 1) := by decide +kernel
theorem dX6_machine_99 : decode cX6_machine 99 = .ok (.aload_n 0, 1) := by decide +kernel
theorem dX6_machine_100 : decode cX6_machine 100 = .ok (.getfield 45, 3) := by decide +kernel
theorem dX6_machine_103 : decode cX6_machine 103 = .ok (.bipush 13, 2) := by decide +kernel
theorem dX6_machine_105 : decode cX6_machine 105 = .ok (.iload_n 2, 1) := by decide +kernel
theorem dX6_machine_106 : decode cX6_machine 106 = .ok (.imul, 1) := by decide +kernel
theorem dX6_machine_107 : decode cX6_machine 107 = .ok (.iload_n 1, 1) := by decide +kernel
theorem dX6_machine_108 : decode cX6_machine 108 = .ok (.iadd, 1) := by decide +kernel
theorem dX6_machine_109 : decode cX6_machine 109 = .ok (.baload, 1) := by decide +kernel
theorem dX6_machine_110 : decode cX6_machine 110 = .ok (.ifCond .eq 7, 3) := by decide +kernel
theorem dX6_machine_113 : decode cX6_machine 113 = .ok (.iload_n 2, 1) := by decide +kernel
theorem dX6_machine_114 : decode cX6_machine 114 = .ok (.goto 9, 3) := by decide +kernel
theorem dX6_machine_117 : decode cX6_machine 117 = .ok (.aload_n 0, 1) := by decide +kernel
theorem dX6_machine_118 : decode cX6_machine 118 = .ok (.getfield 42, 3) := by decide +kernel
theorem dX6_machine_121 : decode cX6_machine 121 = .ok (.iload_n 1, 1) := by decide +kernel
theorem dX6_machine_122 : decode cX6_machine 122 = .ok (.iaload, 1) := by decide +kernel
theorem dX6_machine_123 : decode cX6_machine 123 = .ok (.iastore, 1) := by decide +kernel
theorem dX6_machine_124 : decode cX6_machine 124 = .ok (.iinc 2 1, 3) := by decide +kernel
theorem dX6_machine_127 : decode cX6_machine 127 = .ok (.goto (-93), 3) := by decide +kernel
theorem dX6_machine_130 : decode cX6_machine 130 = .ok (.iinc 1 1, 3) := by decide +kernel
theorem dX6_machine_133 : decode cX6_machine 133 = .ok (.goto (-123), 3) := by decide +kernel
theorem dX6_machine_136 : decode cX6_machine 136 = .ok (.return_, 1) := by decide +kernel
set_option maxRecDepth 20000 in
theorem ggX6_isSetUp_X6_isItem : GoodIn wsX6_isSetUp wsX6_isItem := goodIn_r _ [7, 8, 9, 10, 6, 11, 23, 24, 25, 26, 27, 28, 29, 30, 31, 32, 33, 34, 35, 36, 37, 38, 39, 40, 41, 42, 43, 44, 45, 46, 47] (by decide +kernel) (by decide +kernel)
set_option maxRecDepth 20000 in
theorem gX6_isSetUp_X6_isItem : GoodIn wsX6_isSetUp (wsV RX6 83 RX6 yX6_isItem wsX6_isItem) := goodIn_app (goodIn_of _ (by decide +kernel)) ggX6_isSetUp_X6_isItem
set_option maxRecDepth 20000 in
theorem ggX6_isSetUp_X6_isPeriod : GoodIn wsX6_isSetUp wsX6_isPeriod := goodIn_r _ [15, 16, 9, 10, 6, 11, 23, 24, 25, 26, 27, 28, 29, 30, 31, 32, 33, 34, 35, 36, 37, 38, 39, 40, 41, 42, 43, 44, 45, 46, 47] (by decide +kernel) (by decide +kernel)
set_option maxRecDepth 20000 in
theorem gX6_isSetUp_X6_isPeriod : GoodIn wsX6_isSetUp (wsV RX6 91 RX6 yX6_isPeriod wsX6_isPeriod) := goodIn_app (goodIn_of _ (by decide +kernel)) ggX6_isSetUp_X6_isPeriod
set_option maxRecDepth 20000 in
theorem ggX6_isSetUp_X6_machine : GoodIn wsX6_isSetUp wsX6_machine := goodIn_r _ [20, 21, 16, 8, 22, 2, 23, 24, 25, 26, 27, 28, 29, 30, 31, 32, 33, 34, 35, 36, 37, 38, 39, 40, 41, 42, 43, 44, 45, 46, 47] (by decide +kernel) (by decide +kernel)
set_option maxRecDepth 20000 in
theorem gX6_isSetUp_X6_machine : GoodIn wsX6_isSetUp (wsV RX6 114 RX6 yX6_machine wsX6_machine) := goodIn_app (goodIn_of _ (by decide +kernel)) ggX6_isSetUp_X6_machine
theorem dX6_isSetUp_0 : decode cX6_isSetUp 0 = .ok (.aload_n 0, 1) := by decide +kernel
theorem dX6_isSetUp_1 : decode cX6_isSetUp 1 = .ok (.iconst 0, 1) := by decide +kernel
theorem dX6_isSetUp_2 : decode cX6_isSetUp 2 = .ok (.putfield 73, 3) := by decide +kernel
theorem dX6_isSetUp_5 : decode cX6_isSetUp 5 = .ok (.aload_n 0, 1) := by decide +kernel
theorem dX6_isSetUp_6 : decode cX6_isSetUp 6 = .ok (.iload_n 1, 1) := by decide +kernel
theorem dX6_isSetUp_7 : decode cX6_isSetUp 7 = .ok (.invokevirtual 83, 3) := by decide +kernel
theorem dX6_isSetUp_10 : decode cX6_isSetUp 10 = .ok (.ifCond .eq 11, 3) := by decide +kernel
theorem dX6_isSetUp_13 : decode cX6_isSetUp 13 = .ok (.aload_n 0, 1) := by decide +kernel
theorem dX6_isSetUp_14 : decode cX6_isSetUp 14 = .ok (.iload_n 2, 1) := by decide +kernel
theorem dX6_isSetUp_15 : decode cX6_isSetUp 15 = .ok (.invokevirtual 91, 3) := by decide +kernel
theorem dX6_isSetUp_18 : decode cX6_isSetUp 18 = .ok (.ifCond .ne 5, 3) := by decide +kernel
theorem dX6_isSetUp_21 : decode cX6_isSetUp 21 = .ok (.iconst (-1), 1) := by decide +kernel
theorem dX6_isSetUp_22 : decode cX6_isSetUp 22 = .ok (.ireturn, 1) := by decide +kernel
theorem dX6_isSetUp_23 : decode cX6_isSetUp 23 = .ok (.aload_n 0, 1) := by decide +kernel
theorem dX6_isSetUp_24 : decode cX6_isSetUp 24 = .ok (.invokevirtual 114, 3) := by decide +kernel
theorem dX6_isSetUp_27 : decode cX6_isSetUp 27 = .ok (.aload_n 0, 1) := by decide +kernel
theorem dX6_isSetUp_28 : decode cX6_isSetUp 28 = .ok (.getfield 45, 3) := by decide +kernel
theorem dX6_isSetUp_31 : decode cX6_isSetUp 31 = .ok (.bipush 13, 2) := by decide +kernel
theorem dX6_isSetUp_33 : decode cX6_isSetUp 33 = .ok (.iload_n 1, 1) := by decide +kernel
theorem dX6_isSetUp_34 : decode cX6_isSetUp 34 = .ok (.imul, 1) := by decide +kernel
theorem dX6_isSetUp_35 : decode cX6_isSetUp 35 = .ok (.iload_n 2, 1) := by decide +kernel
theorem dX6_isSetUp_36 : decode cX6_isSetUp 36 = .ok (.iadd, 1) := by decide +kernel
theorem dX6_isSetUp_37 : decode cX6_isSetUp 37 = .ok (.baload, 1) := by decide +kernel
theorem dX6_isSetUp_38 : decode cX6_isSetUp 38 = .ok (.ifCond .eq 7, 3) := by decide +kernel
theorem dX6_isSetUp_41 : decode cX6_isSetUp 41 = .ok (.iconst 1, 1) := by decide +kernel
theorem dX6_isSetUp_42 : decode cX6_isSetUp 42 = .ok (.goto 4, 3) := by decide +kernel
theorem dX6_isSetUp_45 : decode cX6_isSetUp 45 = .ok (.iconst 0, 1) := by decide +kernel
theorem dX6_isSetUp_46 : decode cX6_isSetUp 46 = .ok (.ireturn, 1) := by decide +kernel
set_option maxRecDepth 20000 in
theorem ggX6_stands_X6_in : GoodIn wsX6_stands wsX6_in := goodIn_r _ [7] (by decide +kernel) (by decide +kernel)
set_option maxRecDepth 20000 in
theorem gX6_stands_X6_in : GoodIn wsX6_stands (va_wsS RX6 79 yX6_in wsX6_in) := goodIn_app (goodIn_of _ (by decide +kernel)) ggX6_stands_X6_in
set_option maxRecDepth 20000 in
theorem ggX6_stands_X6_machine : GoodIn wsX6_stands wsX6_machine := goodIn_r _ [11, 3, 2, 12, 13, 14, 15, 16, 17, 18, 19, 20, 21, 22, 23, 24, 25, 26, 27, 28, 29, 30, 31, 32, 33, 34, 35, 36, 37, 38, 39] (by decide +kernel) (by decide +kernel)
set_option maxRecDepth 20000 in
theorem gX6_stands_X6_machine : GoodIn wsX6_stands (wsV RX6 114 RX6 yX6_machine wsX6_machine) := goodIn_app (goodIn_of _ (by decide +kernel)) ggX6_stands_X6_machine
theorem dX6_stands_0 : decode cX6_stands 0 = .ok (.aload_n 0, 1) := by decide +kernel
theorem dX6_stands_1 : decode cX6_stands 1 = .ok (.iconst 0, 1) := by decide +kernel
theorem dX6_stands_2 : decode cX6_stands 2 = .ok (.putfield 73, 3) := by decide +kernel
theorem dX6_stands_5 : decode cX6_stands 5 = .ok (.iload_n 1, 1) := by decide +kernel
theorem dX6_stands_6 : decode cX6_stands 6 = .ok (.iconst 0, 1) := by decide +kernel
theorem dX6_stands_7 : decode cX6_stands 7 = .ok (.aload_n 0, 1) := by decide +kernel
theorem dX6_stands_8 : decode cX6_stands 8 = .ok (.getfield 69, 3) := by decide +kernel
theorem dX6_stands_11 : decode cX6_stands 11 = .ok (.invokestatic 79, 3) := by decide +kernel
theorem dX6_stands_14 : decode cX6_stands 14 = .ok (.ifCond .ne 5, 3) := by decide +kernel
theorem dX6_stands_17 : decode cX6_stands 17 = .ok (.iconst (-1), 1) := by decide +kernel
theorem dX6_stands_18 : decode cX6_stands 18 = .ok (.ireturn, 1) := by decide +kernel
theorem dX6_stands_19 : decode cX6_stands 19 = .ok (.aload_n 0, 1) := by decide +kernel
theorem dX6_stands_20 : decode cX6_stands 20 = .ok (.invokevirtual 114, 3) := by decide +kernel
theorem dX6_stands_23 : decode cX6_stands 23 = .ok (.aload_n 0, 1) := by decide +kernel
theorem dX6_stands_24 : decode cX6_stands 24 = .ok (.getfield 42, 3) := by decide +kernel
theorem dX6_stands_27 : decode cX6_stands 27 = .ok (.iload_n 1, 1) := by decide +kernel
theorem dX6_stands_28 : decode cX6_stands 28 = .ok (.iaload, 1) := by decide +kernel
theorem dX6_stands_29 : decode cX6_stands 29 = .ok (.ireturn, 1) := by decide +kernel
set_option maxRecDepth 20000 in
theorem ggX6_timeOf_X6_machine : GoodIn wsX6_timeOf wsX6_machine := goodIn_r _ [9, 10, 11, 1, 2, 4, 12, 13, 14, 15, 16, 17, 18, 19, 20, 21, 22, 23, 24, 25, 26, 27, 28, 29, 30, 31, 32, 33, 34, 35, 36] (by decide +kernel) (by decide +kernel)
set_option maxRecDepth 20000 in
theorem gX6_timeOf_X6_machine : GoodIn wsX6_timeOf (wsV RX6 114 RX6 yX6_machine wsX6_machine) := goodIn_app (goodIn_of _ (by decide +kernel)) ggX6_timeOf_X6_machine
theorem dX6_timeOf_0 : decode cX6_timeOf 0 = .ok (.aload_n 0, 1) := by decide +kernel
theorem dX6_timeOf_1 : decode cX6_timeOf 1 = .ok (.invokevirtual 114, 3) := by decide +kernel
theorem dX6_timeOf_4 : decode cX6_timeOf 4 = .ok (.lconst 0, 1) := by decide +kernel
theorem dX6_timeOf_5 : decode cX6_timeOf 5 = .ok (.lstore_n 2, 1) := by decide +kernel
theorem dX6_timeOf_6 : decode cX6_timeOf 6 = .ok (.iconst 0, 1) := by decide +kernel
theorem dX6_timeOf_7 : decode cX6_timeOf 7 = .ok (.istore 4, 2) := by decide +kernel
theorem dX6_timeOf_9 : decode cX6_timeOf 9 = .ok (.iload 4, 2) := by decide +kernel
theorem dX6_timeOf_11 : decode cX6_timeOf 11 = .ok (.aload_n 0, 1) := by decide +kernel
theorem dX6_timeOf_12 : decode cX6_timeOf 12 = .ok (.getfield 76, 3) := by decide +kernel
theorem dX6_timeOf_15 : decode cX6_timeOf 15 = .ok (.if_icmp .ge 73, 3) := by decide +kernel
theorem dX6_timeOf_18 : decode cX6_timeOf 18 = .ok (.lload_n 2, 1) := by decide +kernel
theorem dX6_timeOf_19 : decode cX6_timeOf 19 = .ok (.aload_n 0, 1) := by decide +kernel
theorem dX6_timeOf_20 : decode cX6_timeOf 20 = .ok (.getfield 16, 3) := by decide +kernel
theorem dX6_timeOf_23 : decode cX6_timeOf 23 = .ok (.bipush 13, 2) := by decide +kernel
theorem dX6_timeOf_25 : decode cX6_timeOf 25 = .ok (.iload 4, 2) := by decide +kernel
theorem dX6_timeOf_27 : decode cX6_timeOf 27 = .ok (.imul, 1) := by decide +kernel
theorem dX6_timeOf_28 : decode cX6_timeOf 28 = .ok (.iload_n 1, 1) := by decide +kernel
theorem dX6_timeOf_29 : decode cX6_timeOf 29 = .ok (.iadd, 1) := by decide +kernel
theorem dX6_timeOf_30 : decode cX6_timeOf 30 = .ok (.iaload, 1) := by decide +kernel
theorem dX6_timeOf_31 : decode cX6_timeOf 31 = .ok (.i2l, 1) := by decide +kernel
theorem dX6_timeOf_32 : decode cX6_timeOf 32 = .ok (.aload_n 0, 1) := by decide +kernel
theorem dX6_timeOf_33 : decode cX6_timeOf 33 = .ok (.getfield 7, 3) := by decide +kernel
theorem dX6_timeOf_36 : decode cX6_timeOf 36 = .ok (.bipush 8, 2) := by decide +kernel
theorem dX6_timeOf_38 : decode cX6_timeOf 38 = .ok (.iload 4, 2) := by decide +kernel
theorem dX6_timeOf_40 : decode cX6_timeOf 40 = .ok (.imul, 1) := by decide +kernel
theorem dX6_timeOf_41 : decode cX6_timeOf 41 = .ok (.iconst 5, 1) := by decide +kernel
theorem dX6_timeOf_42 : decode cX6_timeOf 42 = .ok (.iadd, 1) := by decide +kernel
theorem dX6_timeOf_43 : decode cX6_timeOf 43 = .ok (.iaload, 1) := by decide +kernel
theorem dX6_timeOf_44 : decode cX6_timeOf 44 = .ok (.i2l, 1) := by decide +kernel
theorem dX6_timeOf_45 : decode cX6_timeOf 45 = .ok (.lmul, 1) := by decide +kernel
theorem dX6_timeOf_46 : decode cX6_timeOf 46 = .ok (.aload_n 0, 1) := by decide +kernel
theorem dX6_timeOf_47 : decode cX6_timeOf 47 = .ok (.getfield 45, 3) := by decide +kernel
theorem dX6_timeOf_50 : decode cX6_timeOf 50 = .ok (.bipush 13, 2) := by decide +kernel
theorem dX6_timeOf_52 : decode cX6_timeOf 52 = .ok (.iload 4, 2) := by decide +kernel
theorem dX6_timeOf_54 : decode cX6_timeOf 54 = .ok (.imul, 1) := by decide +kernel
theorem dX6_timeOf_55 : decode cX6_timeOf 55 = .ok (.iload_n 1, 1) := by decide +kernel
theorem dX6_timeOf_56 : decode cX6_timeOf 56 = .ok (.iadd, 1) := by decide +kernel
theorem dX6_timeOf_57 : decode cX6_timeOf 57 = .ok (.baload, 1) := by decide +kernel
theorem dX6_timeOf_58 : decode cX6_timeOf 58 = .ok (.ifCond .eq 19, 3) := by decide +kernel
theorem dX6_timeOf_61 : decode cX6_timeOf 61 = .ok (.aload_n 0, 1) := by decide +kernel
theorem dX6_timeOf_62 : decode cX6_timeOf 62 = .ok (.getfield 7, 3) := by decide +kernel
theorem dX6_timeOf_65 : decode cX6_timeOf 65 = .ok (.bipush 8, 2) := by decide +kernel
theorem dX6_timeOf_67 : decode cX6_timeOf 67 = .ok (.iload 4, 2) := by decide +kernel
theorem dX6_timeOf_69 : decode cX6_timeOf 69 = .ok (.imul, 1) := by decide +kernel
theorem dX6_timeOf_70 : decode cX6_timeOf 70 = .ok (.bipush 6, 2) := by decide +kernel
theorem dX6_timeOf_72 : decode cX6_timeOf 72 = .ok (.iadd, 1) := by decide +kernel
theorem dX6_timeOf_73 : decode cX6_timeOf 73 = .ok (.iaload, 1) := by decide +kernel
theorem dX6_timeOf_74 : decode cX6_timeOf 74 = .ok (.goto 4, 3) := by decide +kernel
theorem dX6_timeOf_77 : decode cX6_timeOf 77 = .ok (.iconst 0, 1) := by decide +kernel
theorem dX6_timeOf_78 : decode cX6_timeOf 78 = .ok (.i2l, 1) := by decide +kernel
theorem dX6_timeOf_79 : decode cX6_timeOf 79 = .ok (.ladd, 1) := by decide +kernel
theorem dX6_timeOf_80 : decode cX6_timeOf 80 = .ok (.ladd, 1) := by decide +kernel
theorem dX6_timeOf_81 : decode cX6_timeOf 81 = .ok (.lstore_n 2, 1) := by decide +kernel
theorem dX6_timeOf_82 : decode cX6_timeOf 82 = .ok (.iinc 4 1, 3) := by decide +kernel
theorem dX6_timeOf_85 : decode cX6_timeOf 85 = .ok (.goto (-76), 3) := by decide +kernel
theorem dX6_timeOf_88 : decode cX6_timeOf 88 = .ok (.lload_n 2, 1) := by decide +kernel
theorem dX6_timeOf_89 : decode cX6_timeOf 89 = .ok (.lreturn, 1) := by decide +kernel
set_option maxRecDepth 20000 in
theorem ggX6_overOf_X6_timeOf : GoodIn wsX6_overOf wsX6_timeOf := goodIn_r _ [6, 7, 8, 9, 10, 11, 12, 13, 5, 14, 15, 16, 17, 18, 19, 20, 21, 22, 23, 24, 25, 26, 27, 28, 29, 30, 31, 32, 33, 34, 35, 36, 37, 38, 39, 40, 41] (by decide +kernel) (by decide +kernel)
set_option maxRecDepth 20000 in
theorem gX6_overOf_X6_timeOf : GoodIn wsX6_overOf (wsV RX6 117 RX6 yX6_timeOf wsX6_timeOf) := goodIn_app (goodIn_of _ (by decide +kernel)) ggX6_overOf_X6_timeOf
theorem dX6_overOf_0 : decode cX6_overOf 0 = .ok (.aload_n 0, 1) := by decide +kernel
theorem dX6_overOf_1 : decode cX6_overOf 1 = .ok (.iload_n 1, 1) := by decide +kernel
theorem dX6_overOf_2 : decode cX6_overOf 2 = .ok (.invokevirtual 117, 3) := by decide +kernel
theorem dX6_overOf_5 : decode cX6_overOf 5 = .ok (.aload_n 0, 1) := by decide +kernel
theorem dX6_overOf_6 : decode cX6_overOf 6 = .ok (.getfield 22, 3) := by decide +kernel
theorem dX6_overOf_9 : decode cX6_overOf 9 = .ok (.iload_n 1, 1) := by decide +kernel
theorem dX6_overOf_10 : decode cX6_overOf 10 = .ok (.iaload, 1) := by decide +kernel
theorem dX6_overOf_11 : decode cX6_overOf 11 = .ok (.i2l, 1) := by decide +kernel
theorem dX6_overOf_12 : decode cX6_overOf 12 = .ok (.lsub, 1) := by decide +kernel
theorem dX6_overOf_13 : decode cX6_overOf 13 = .ok (.lstore_n 2, 1) := by decide +kernel
theorem dX6_overOf_14 : decode cX6_overOf 14 = .ok (.lload_n 2, 1) := by decide +kernel
theorem dX6_overOf_15 : decode cX6_overOf 15 = .ok (.lconst 0, 1) := by decide +kernel
theorem dX6_overOf_16 : decode cX6_overOf 16 = .ok (.lcmp, 1) := by decide +kernel
theorem dX6_overOf_17 : decode cX6_overOf 17 = .ok (.ifCond .le 7, 3) := by decide +kernel
theorem dX6_overOf_20 : decode cX6_overOf 20 = .ok (.lload_n 2, 1) := by decide +kernel
theorem dX6_overOf_21 : decode cX6_overOf 21 = .ok (.goto 4, 3) := by decide +kernel
theorem dX6_overOf_24 : decode cX6_overOf 24 = .ok (.lconst 0, 1) := by decide +kernel
theorem dX6_overOf_25 : decode cX6_overOf 25 = .ok (.lreturn, 1) := by decide +kernel
set_option maxRecDepth 20000 in
theorem ggX6_time_X6_isPeriod : GoodIn wsX6_time wsX6_isPeriod := goodIn_r _ [7, 8, 9, 10, 6, 11, 25, 26, 27, 28, 29, 30, 31, 32, 33, 34, 35, 36, 37, 38, 39, 40, 41, 42, 43, 44, 45, 46, 47, 48, 49] (by decide +kernel) (by decide +kernel)
set_option maxRecDepth 20000 in
theorem gX6_time_X6_isPeriod : GoodIn wsX6_time (wsV RX6 91 RX6 yX6_isPeriod wsX6_isPeriod) := goodIn_app (goodIn_of _ (by decide +kernel)) ggX6_time_X6_isPeriod
set_option maxRecDepth 20000 in
theorem ggX6_time_X6_timeOf : GoodIn wsX6_time wsX6_timeOf := goodIn_r _ [15, 16, 17, 18, 19, 20, 21, 22, 6, 23, 24, 8, 25, 26, 27, 28, 29, 30, 31, 32, 33, 34, 35, 36, 37, 38, 39, 40, 41, 42, 43, 44, 45, 46, 47, 48, 49] (by decide +kernel) (by decide +kernel)
set_option maxRecDepth 20000 in
theorem gX6_time_X6_timeOf : GoodIn wsX6_time (wsV RX6 117 RX6 yX6_timeOf wsX6_timeOf) := goodIn_app (goodIn_of _ (by decide +kernel)) ggX6_time_X6_timeOf
theorem dX6_time_0 : decode cX6_time 0 = .ok (.aload_n 0, 1) := by decide +kernel
theorem dX6_time_1 : decode cX6_time 1 = .ok (.iconst 0, 1) := by decide +kernel
theorem dX6_time_2 : decode cX6_time 2 = .ok (.putfield 73, 3) := by decide +kernel
theorem dX6_time_5 : decode cX6_time 5 = .ok (.aload_n 0, 1) := by decide +kernel
theorem dX6_time_6 : decode cX6_time 6 = .ok (.iload_n 1, 1) := by decide +kernel
theorem dX6_time_7 : decode cX6_time 7 = .ok (.invokevirtual 91, 3) := by decide +kernel
theorem dX6_time_10 : decode cX6_time 10 = .ok (.ifCond .eq 11, 3) := by decide +kernel
theorem dX6_time_13 : decode cX6_time 13 = .ok (.aload_n 0, 1) := by decide +kernel
theorem dX6_time_14 : decode cX6_time 14 = .ok (.iload_n 1, 1) := by decide +kernel
theorem dX6_time_15 : decode cX6_time 15 = .ok (.invokevirtual 117, 3) := by decide +kernel
theorem dX6_time_18 : decode cX6_time 18 = .ok (.goto 6, 3) := by decide +kernel
theorem dX6_time_21 : decode cX6_time 21 = .ok (.ldc2_w 108, 3) := by decide +kernel
theorem dX6_time_24 : decode cX6_time 24 = .ok (.lreturn, 1) := by decide +kernel
set_option maxRecDepth 20000 in
theorem ggX6_priceOf_X6_overOf : GoodIn wsX6_priceOf wsX6_overOf := goodIn_r _ [12, 13, 14, 15, 16, 11, 17, 3, 18, 5, 4, 19, 20, 21, 22, 23, 1, 36, 37, 38, 39, 40, 41, 42, 43, 44, 45, 46, 47, 48, 49, 50, 51, 52, 53, 54, 55, 56, 57, 58, 59, 60] (by decide +kernel) (by decide +kernel)
set_option maxRecDepth 20000 in
theorem gX6_priceOf_X6_overOf : GoodIn wsX6_priceOf (wsV RX6 121 RX6 yX6_overOf wsX6_overOf) := goodIn_app (goodIn_of _ (by decide +kernel)) ggX6_priceOf_X6_overOf
set_option maxRecDepth 20000 in
theorem ggX6_priceOf_X6_run : GoodIn wsX6_priceOf wsX6_run := goodIn_r _ [27, 5, 28, 7, 29, 6, 1, 18, 30, 31, 32, 11, 33, 34, 3, 35, 36, 37, 38, 39, 40, 41, 42, 43, 44, 45, 46, 47, 48, 49, 50, 51, 52, 53, 54, 55, 56, 57, 58, 59, 60] (by decide +kernel) (by decide +kernel)
set_option maxRecDepth 20000 in
theorem gX6_priceOf_X6_run : GoodIn wsX6_priceOf (wsV RX6 110 RX6 yX6_run wsX6_run) := goodIn_app (goodIn_of _ (by decide +kernel)) ggX6_priceOf_X6_run
set_option maxRecDepth 20000 in
theorem ggX6_priceOf_X6_machine : GoodIn wsX6_priceOf wsX6_machine := goodIn_r _ [22, 23, 1, 3, 18, 4, 36, 37, 38, 39, 40, 41, 42, 43, 44, 45, 46, 47, 48, 49, 50, 51, 52, 53, 54, 55, 56, 57, 58, 59, 60] (by decide +kernel) (by decide +kernel)
set_option maxRecDepth 20000 in
theorem gX6_priceOf_X6_machine : GoodIn wsX6_priceOf (wsV RX6 114 RX6 yX6_machine wsX6_machine) := goodIn_app (goodIn_of _ (by decide +kernel)) ggX6_priceOf_X6_machine
theorem dX6_priceOf_0 : decode cX6_priceOf 0 = .ok (.lconst 0, 1) := by decide +kernel
theorem dX6_priceOf_1 : decode cX6_priceOf 1 = .ok (.lstore_n 2, 1) := by decide +kernel
theorem dX6_priceOf_2 : decode cX6_priceOf 2 = .ok (.iconst 1, 1) := by decide +kernel
theorem dX6_priceOf_3 : decode cX6_priceOf 3 = .ok (.istore 4, 2) := by decide +kernel
theorem dX6_priceOf_5 : decode cX6_priceOf 5 = .ok (.iload 4, 2) := by decide +kernel
theorem dX6_priceOf_7 : decode cX6_priceOf 7 = .ok (.aload_n 0, 1) := by decide +kernel
theorem dX6_priceOf_8 : decode cX6_priceOf 8 = .ok (.getfield 69, 3) := by decide +kernel
theorem dX6_priceOf_11 : decode cX6_priceOf 11 = .ok (.if_icmp .gt 38, 3) := by decide +kernel
theorem dX6_priceOf_14 : decode cX6_priceOf 14 = .ok (.lload_n 2, 1) := by decide +kernel
theorem dX6_priceOf_15 : decode cX6_priceOf 15 = .ok (.iload_n 1, 1) := by decide +kernel
theorem dX6_priceOf_16 : decode cX6_priceOf 16 = .ok (.iconst 2, 1) := by decide +kernel
theorem dX6_priceOf_17 : decode cX6_priceOf 17 = .ok (.if_icmp .eq 8, 3) := by decide +kernel
theorem dX6_priceOf_20 : decode cX6_priceOf 20 = .ok (.iload_n 1, 1) := by decide +kernel
theorem dX6_priceOf_21 : decode cX6_priceOf 21 = .ok (.iconst 3, 1) := by decide +kernel
theorem dX6_priceOf_22 : decode cX6_priceOf 22 = .ok (.if_icmp .ne 18, 3) := by decide +kernel
theorem dX6_priceOf_25 : decode cX6_priceOf 25 = .ok (.aload_n 0, 1) := by decide +kernel
theorem dX6_priceOf_26 : decode cX6_priceOf 26 = .ok (.iload 4, 2) := by decide +kernel
theorem dX6_priceOf_28 : decode cX6_priceOf 28 = .ok (.invokevirtual 121, 3) := by decide +kernel
theorem dX6_priceOf_31 : decode cX6_priceOf 31 = .ok (.aload_n 0, 1) := by decide +kernel
theorem dX6_priceOf_32 : decode cX6_priceOf 32 = .ok (.getfield 98, 3) := by decide +kernel
theorem dX6_priceOf_35 : decode cX6_priceOf 35 = .ok (.i2l, 1) := by decide +kernel
theorem dX6_priceOf_36 : decode cX6_priceOf 36 = .ok (.lmul, 1) := by decide +kernel
theorem dX6_priceOf_37 : decode cX6_priceOf 37 = .ok (.goto 4, 3) := by decide +kernel
theorem dX6_priceOf_40 : decode cX6_priceOf 40 = .ok (.lconst 0, 1) := by decide +kernel
theorem dX6_priceOf_41 : decode cX6_priceOf 41 = .ok (.ladd, 1) := by decide +kernel
theorem dX6_priceOf_42 : decode cX6_priceOf 42 = .ok (.lstore_n 2, 1) := by decide +kernel
theorem dX6_priceOf_43 : decode cX6_priceOf 43 = .ok (.iinc 4 1, 3) := by decide +kernel
theorem dX6_priceOf_46 : decode cX6_priceOf 46 = .ok (.goto (-41), 3) := by decide +kernel
theorem dX6_priceOf_49 : decode cX6_priceOf 49 = .ok (.iconst 0, 1) := by decide +kernel
theorem dX6_priceOf_50 : decode cX6_priceOf 50 = .ok (.istore 4, 2) := by decide +kernel
theorem dX6_priceOf_52 : decode cX6_priceOf 52 = .ok (.iload 4, 2) := by decide +kernel
theorem dX6_priceOf_54 : decode cX6_priceOf 54 = .ok (.aload_n 0, 1) := by decide +kernel
theorem dX6_priceOf_55 : decode cX6_priceOf 55 = .ok (.getfield 76, 3) := by decide +kernel
theorem dX6_priceOf_58 : decode cX6_priceOf 58 = .ok (.if_icmp .ge 137, 3) := by decide +kernel
theorem dX6_priceOf_61 : decode cX6_priceOf 61 = .ok (.aload_n 0, 1) := by decide +kernel
theorem dX6_priceOf_62 : decode cX6_priceOf 62 = .ok (.iload 4, 2) := by decide +kernel
theorem dX6_priceOf_64 : decode cX6_priceOf 64 = .ok (.invokevirtual 110, 3) := by decide +kernel
theorem dX6_priceOf_67 : decode cX6_priceOf 67 = .ok (.aload_n 0, 1) := by decide +kernel
theorem dX6_priceOf_68 : decode cX6_priceOf 68 = .ok (.invokevirtual 114, 3) := by decide +kernel
theorem dX6_priceOf_71 : decode cX6_priceOf 71 = .ok (.iconst 1, 1) := by decide +kernel
theorem dX6_priceOf_72 : decode cX6_priceOf 72 = .ok (.istore 5, 2) := by decide +kernel
theorem dX6_priceOf_74 : decode cX6_priceOf 74 = .ok (.iload 5, 2) := by decide +kernel
theorem dX6_priceOf_76 : decode cX6_priceOf 76 = .ok (.aload_n 0, 1) := by decide +kernel
theorem dX6_priceOf_77 : decode cX6_priceOf 77 = .ok (.getfield 69, 3) := by decide +kernel
theorem dX6_priceOf_80 : decode cX6_priceOf 80 = .ok (.if_icmp .gt 109, 3) := by decide +kernel
theorem dX6_priceOf_83 : decode cX6_priceOf 83 = .ok (.lload_n 2, 1) := by decide +kernel
theorem dX6_priceOf_84 : decode cX6_priceOf 84 = .ok (.iload_n 1, 1) := by decide +kernel
theorem dX6_priceOf_85 : decode cX6_priceOf 85 = .ok (.ifCond .eq 8, 3) := by decide +kernel
theorem dX6_priceOf_88 : decode cX6_priceOf 88 = .ok (.iload_n 1, 1) := by decide +kernel
theorem dX6_priceOf_89 : decode cX6_priceOf 89 = .ok (.iconst 3, 1) := by decide +kernel
theorem dX6_priceOf_90 : decode cX6_priceOf 90 = .ok (.if_icmp .ne 33, 3) := by decide +kernel
theorem dX6_priceOf_93 : decode cX6_priceOf 93 = .ok (.aload_n 0, 1) := by decide +kernel
theorem dX6_priceOf_94 : decode cX6_priceOf 94 = .ok (.getfield 45, 3) := by decide +kernel
theorem dX6_priceOf_97 : decode cX6_priceOf 97 = .ok (.bipush 13, 2) := by decide +kernel
theorem dX6_priceOf_99 : decode cX6_priceOf 99 = .ok (.iload 4, 2) := by decide +kernel
theorem dX6_priceOf_101 : decode cX6_priceOf 101 = .ok (.imul, 1) := by decide +kernel
theorem dX6_priceOf_102 : decode cX6_priceOf 102 = .ok (.iload 5, 2) := by decide +kernel
theorem dX6_priceOf_104 : decode cX6_priceOf 104 = .ok (.iadd, 1) := by decide +kernel
theorem dX6_priceOf_105 : decode cX6_priceOf 105 = .ok (.baload, 1) := by decide +kernel
theorem dX6_priceOf_106 : decode cX6_priceOf 106 = .ok (.ifCond .eq 17, 3) := by decide +kernel
theorem dX6_priceOf_109 : decode cX6_priceOf 109 = .ok (.aload_n 0, 1) := by decide +kernel
theorem dX6_priceOf_110 : decode cX6_priceOf 110 = .ok (.getfield 7, 3) := by decide +kernel
theorem dX6_priceOf_113 : decode cX6_priceOf 113 = .ok (.bipush 8, 2) := by decide +kernel
theorem dX6_priceOf_115 : decode cX6_priceOf 115 = .ok (.iload 4, 2) := by decide +kernel
theorem dX6_priceOf_117 : decode cX6_priceOf 117 = .ok (.imul, 1) := by decide +kernel
theorem dX6_priceOf_118 : decode cX6_priceOf 118 = .ok (.iaload, 1) := by decide +kernel
theorem dX6_priceOf_119 : decode cX6_priceOf 119 = .ok (.i2l, 1) := by decide +kernel
theorem dX6_priceOf_120 : decode cX6_priceOf 120 = .ok (.goto 4, 3) := by decide +kernel
theorem dX6_priceOf_123 : decode cX6_priceOf 123 = .ok (.lconst 0, 1) := by decide +kernel
theorem dX6_priceOf_124 : decode cX6_priceOf 124 = .ok (.ladd, 1) := by decide +kernel
theorem dX6_priceOf_125 : decode cX6_priceOf 125 = .ok (.lstore_n 2, 1) := by decide +kernel
theorem dX6_priceOf_126 : decode cX6_priceOf 126 = .ok (.aload_n 0, 1) := by decide +kernel
theorem dX6_priceOf_127 : decode cX6_priceOf 127 = .ok (.getfield 39, 3) := by decide +kernel
theorem dX6_priceOf_130 : decode cX6_priceOf 130 = .ok (.iload 5, 2) := by decide +kernel
theorem dX6_priceOf_132 : decode cX6_priceOf 132 = .ok (.laload, 1) := by decide +kernel
theorem dX6_priceOf_133 : decode cX6_priceOf 133 = .ok (.aload_n 0, 1) := by decide +kernel
theorem dX6_priceOf_134 : decode cX6_priceOf 134 = .ok (.getfield 33, 3) := by decide +kernel
theorem dX6_priceOf_137 : decode cX6_priceOf 137 = .ok (.iload 5, 2) := by decide +kernel
theorem dX6_priceOf_139 : decode cX6_priceOf 139 = .ok (.laload, 1) := by decide +kernel
theorem dX6_priceOf_140 : decode cX6_priceOf 140 = .ok (.lsub, 1) := by decide +kernel
theorem dX6_priceOf_141 : decode cX6_priceOf 141 = .ok (.lstore 6, 2) := by decide +kernel
theorem dX6_priceOf_143 : decode cX6_priceOf 143 = .ok (.lload_n 2, 1) := by decide +kernel
theorem dX6_priceOf_144 : decode cX6_priceOf 144 = .ok (.iload_n 1, 1) := by decide +kernel
theorem dX6_priceOf_145 : decode cX6_priceOf 145 = .ok (.iconst 1, 1) := by decide +kernel
theorem dX6_priceOf_146 : decode cX6_priceOf 146 = .ok (.if_icmp .eq 8, 3) := by decide +kernel
theorem dX6_priceOf_149 : decode cX6_priceOf 149 = .ok (.iload_n 1, 1) := by decide +kernel
theorem dX6_priceOf_150 : decode cX6_priceOf 150 = .ok (.iconst 3, 1) := by decide +kernel
theorem dX6_priceOf_151 : decode cX6_priceOf 151 = .ok (.if_icmp .ne 29, 3) := by decide +kernel
theorem dX6_priceOf_154 : decode cX6_priceOf 154 = .ok (.lload 6, 2) := by decide +kernel
theorem dX6_priceOf_156 : decode cX6_priceOf 156 = .ok (.lconst 0, 1) := by decide +kernel
theorem dX6_priceOf_157 : decode cX6_priceOf 157 = .ok (.lcmp, 1) := by decide +kernel
theorem dX6_priceOf_158 : decode cX6_priceOf 158 = .ok (.ifCond .le 22, 3) := by decide +kernel
theorem dX6_priceOf_161 : decode cX6_priceOf 161 = .ok (.lload 6, 2) := by decide +kernel
theorem dX6_priceOf_163 : decode cX6_priceOf 163 = .ok (.aload_n 0, 1) := by decide +kernel
theorem dX6_priceOf_164 : decode cX6_priceOf 164 = .ok (.getfield 7, 3) := by decide +kernel
theorem dX6_priceOf_167 : decode cX6_priceOf 167 = .ok (.bipush 8, 2) := by decide +kernel
theorem dX6_priceOf_169 : decode cX6_priceOf 169 = .ok (.iload 4, 2) := by decide +kernel
theorem dX6_priceOf_171 : decode cX6_priceOf 171 = .ok (.imul, 1) := by decide +kernel
theorem dX6_priceOf_172 : decode cX6_priceOf 172 = .ok (.iconst 1, 1) := by decide +kernel
theorem dX6_priceOf_173 : decode cX6_priceOf 173 = .ok (.iadd, 1) := by decide +kernel
theorem dX6_priceOf_174 : decode cX6_priceOf 174 = .ok (.iaload, 1) := by decide +kernel
theorem dX6_priceOf_175 : decode cX6_priceOf 175 = .ok (.i2l, 1) := by decide +kernel
theorem dX6_priceOf_176 : decode cX6_priceOf 176 = .ok (.lmul, 1) := by decide +kernel
theorem dX6_priceOf_177 : decode cX6_priceOf 177 = .ok (.goto 4, 3) := by decide +kernel
theorem dX6_priceOf_180 : decode cX6_priceOf 180 = .ok (.lconst 0, 1) := by decide +kernel
theorem dX6_priceOf_181 : decode cX6_priceOf 181 = .ok (.ladd, 1) := by decide +kernel
theorem dX6_priceOf_182 : decode cX6_priceOf 182 = .ok (.lstore_n 2, 1) := by decide +kernel
theorem dX6_priceOf_183 : decode cX6_priceOf 183 = .ok (.iinc 5 1, 3) := by decide +kernel
theorem dX6_priceOf_186 : decode cX6_priceOf 186 = .ok (.goto (-112), 3) := by decide +kernel
theorem dX6_priceOf_189 : decode cX6_priceOf 189 = .ok (.iinc 4 1, 3) := by decide +kernel
theorem dX6_priceOf_192 : decode cX6_priceOf 192 = .ok (.goto (-140), 3) := by decide +kernel
theorem dX6_priceOf_195 : decode cX6_priceOf 195 = .ok (.lload_n 2, 1) := by decide +kernel
theorem dX6_priceOf_196 : decode cX6_priceOf 196 = .ok (.lreturn, 1) := by decide +kernel
set_option maxRecDepth 20000 in
theorem ggX6_price_X6_in : GoodIn wsX6_price wsX6_in := goodIn_r _ [6] (by decide +kernel) (by decide +kernel)
set_option maxRecDepth 20000 in
theorem gX6_price_X6_in : GoodIn wsX6_price (va_wsS RX6 79 yX6_in wsX6_in) := goodIn_app (goodIn_of _ (by decide +kernel)) ggX6_price_X6_in
set_option maxRecDepth 20000 in
theorem ggX6_price_X6_priceOf : GoodIn wsX6_price wsX6_priceOf := goodIn_r _ [10, 11, 12, 13, 14, 15, 16, 17, 18, 19, 20, 5, 21, 22, 23, 24, 25, 26, 27, 28, 29, 30, 31, 32, 33, 34, 35, 36, 37, 38, 39, 40, 41, 42, 43, 44, 45, 46, 47, 48, 49, 50, 51, 52, 53, 54, 55, 56, 57, 58, 59, 60, 61, 62, 63, 64, 65, 66, 67, 68, 69] (by decide +kernel) (by decide +kernel)
set_option maxRecDepth 20000 in
theorem gX6_price_X6_priceOf : GoodIn wsX6_price (wsV RX6 124 RX6 yX6_priceOf wsX6_priceOf) := goodIn_app (goodIn_of _ (by decide +kernel)) ggX6_price_X6_priceOf
theorem dX6_price_0 : decode cX6_price 0 = .ok (.aload_n 0, 1) := by decide +kernel
theorem dX6_price_1 : decode cX6_price 1 = .ok (.iconst 0, 1) := by decide +kernel
theorem dX6_price_2 : decode cX6_price 2 = .ok (.putfield 73, 3) := by decide +kernel
theorem dX6_price_5 : decode cX6_price 5 = .ok (.iload_n 1, 1) := by decide +kernel
theorem dX6_price_6 : decode cX6_price 6 = .ok (.iconst 0, 1) := by decide +kernel
theorem dX6_price_7 : decode cX6_price 7 = .ok (.iconst 3, 1) := by decide +kernel
theorem dX6_price_8 : decode cX6_price 8 = .ok (.invokestatic 79, 3) := by decide +kernel
theorem dX6_price_11 : decode cX6_price 11 = .ok (.ifCond .eq 11, 3) := by decide +kernel
theorem dX6_price_14 : decode cX6_price 14 = .ok (.aload_n 0, 1) := by decide +kernel
theorem dX6_price_15 : decode cX6_price 15 = .ok (.iload_n 1, 1) := by decide +kernel
theorem dX6_price_16 : decode cX6_price 16 = .ok (.invokevirtual 124, 3) := by decide +kernel
theorem dX6_price_19 : decode cX6_price 19 = .ok (.goto 6, 3) := by decide +kernel
theorem dX6_price_22 : decode cX6_price 22 = .ok (.ldc2_w 108, 3) := by decide +kernel
theorem dX6_price_25 : decode cX6_price 25 = .ok (.lreturn, 1) := by decide +kernel
set_option maxRecDepth 20000 in
theorem ggX6_share_X6_in : GoodIn wsX6_share wsX6_in := goodIn_r _ [7] (by decide +kernel) (by decide +kernel)
set_option maxRecDepth 20000 in
theorem gX6_share_X6_in : GoodIn wsX6_share (va_wsS RX6 79 yX6_in wsX6_in) := goodIn_app (goodIn_of _ (by decide +kernel)) ggX6_share_X6_in
set_option maxRecDepth 20000 in
theorem ggX6_share_X6_priceOf : GoodIn wsX6_share wsX6_priceOf := goodIn_r _ [11, 12, 13, 14, 15, 16, 17, 18, 19, 20, 21, 6, 22, 23, 24, 25, 26, 27, 28, 29, 30, 31, 32, 33, 34, 35, 36, 37, 38, 39, 40, 41, 42, 43, 44, 45, 46, 47, 48, 49, 50, 51, 52, 53, 54, 55, 56, 57, 58, 59, 60, 61, 62, 63, 64, 65, 66, 67, 68, 69, 70] (by decide +kernel) (by decide +kernel)
set_option maxRecDepth 20000 in
theorem gX6_share_X6_priceOf : GoodIn wsX6_share (wsV RX6 124 RX6 yX6_priceOf wsX6_priceOf) := goodIn_app (goodIn_of _ (by decide +kernel)) ggX6_share_X6_priceOf
theorem dX6_share_0 : decode cX6_share 0 = .ok (.aload_n 0, 1) := by decide +kernel
theorem dX6_share_1 : decode cX6_share 1 = .ok (.iconst 0, 1) := by decide +kernel
theorem dX6_share_2 : decode cX6_share 2 = .ok (.putfield 73, 3) := by decide +kernel
theorem dX6_share_5 : decode cX6_share 5 = .ok (.iload_n 1, 1) := by decide +kernel
theorem dX6_share_6 : decode cX6_share 6 = .ok (.iconst 0, 1) := by decide +kernel
theorem dX6_share_7 : decode cX6_share 7 = .ok (.iconst 3, 1) := by decide +kernel
theorem dX6_share_8 : decode cX6_share 8 = .ok (.invokestatic 79, 3) := by decide +kernel
theorem dX6_share_11 : decode cX6_share 11 = .ok (.ifCond .eq 12, 3) := by decide +kernel
theorem dX6_share_14 : decode cX6_share 14 = .ok (.iload_n 2, 1) := by decide +kernel
theorem dX6_share_15 : decode cX6_share 15 = .ok (.iconst 0, 1) := by decide +kernel
theorem dX6_share_16 : decode cX6_share 16 = .ok (.iconst 3, 1) := by decide +kernel
theorem dX6_share_17 : decode cX6_share 17 = .ok (.invokestatic 79, 3) := by decide +kernel
theorem dX6_share_20 : decode cX6_share 20 = .ok (.ifCond .ne 7, 3) := by decide +kernel
theorem dX6_share_23 : decode cX6_share 23 = .ok (.ldc2_w 108, 3) := by decide +kernel
theorem dX6_share_26 : decode cX6_share 26 = .ok (.lreturn, 1) := by decide +kernel
theorem dX6_share_27 : decode cX6_share 27 = .ok (.aload_n 0, 1) := by decide +kernel
theorem dX6_share_28 : decode cX6_share 28 = .ok (.iload_n 2, 1) := by decide +kernel
theorem dX6_share_29 : decode cX6_share 29 = .ok (.invokevirtual 124, 3) := by decide +kernel
theorem dX6_share_32 : decode cX6_share 32 = .ok (.lstore_n 3, 1) := by decide +kernel
theorem dX6_share_33 : decode cX6_share 33 = .ok (.lload_n 3, 1) := by decide +kernel
theorem dX6_share_34 : decode cX6_share 34 = .ok (.lconst 0, 1) := by decide +kernel
theorem dX6_share_35 : decode cX6_share 35 = .ok (.lcmp, 1) := by decide +kernel
theorem dX6_share_36 : decode cX6_share 36 = .ok (.ifCond .ne 10, 3) := by decide +kernel
theorem dX6_share_39 : decode cX6_share 39 = .ok (.aload_n 0, 1) := by decide +kernel
theorem dX6_share_40 : decode cX6_share 40 = .ok (.iconst 1, 1) := by decide +kernel
theorem dX6_share_41 : decode cX6_share 41 = .ok (.putfield 73, 3) := by decide +kernel
theorem dX6_share_44 : decode cX6_share 44 = .ok (.lconst 0, 1) := by decide +kernel
theorem dX6_share_45 : decode cX6_share 45 = .ok (.lreturn, 1) := by decide +kernel
theorem dX6_share_46 : decode cX6_share 46 = .ok (.ldc2_w 127, 3) := by decide +kernel
theorem dX6_share_49 : decode cX6_share 49 = .ok (.aload_n 0, 1) := by decide +kernel
theorem dX6_share_50 : decode cX6_share 50 = .ok (.iload_n 1, 1) := by decide +kernel
theorem dX6_share_51 : decode cX6_share 51 = .ok (.invokevirtual 124, 3) := by decide +kernel
theorem dX6_share_54 : decode cX6_share 54 = .ok (.lmul, 1) := by decide +kernel
theorem dX6_share_55 : decode cX6_share 55 = .ok (.lload_n 3, 1) := by decide +kernel
theorem dX6_share_56 : decode cX6_share 56 = .ok (.ldiv, 1) := by decide +kernel
theorem dX6_share_57 : decode cX6_share 57 = .ok (.lreturn, 1) := by decide +kernel
theorem dX6_note_0 : decode cX6_note 0 = .ok (.lload 4, 2) := by decide +kernel
theorem dX6_note_2 : decode cX6_note 2 = .ok (.lconst 0, 1) := by decide +kernel
theorem dX6_note_3 : decode cX6_note 3 = .ok (.lcmp, 1) := by decide +kernel
theorem dX6_note_4 : decode cX6_note 4 = .ok (.ifCond .le 54, 3) := by decide +kernel
theorem dX6_note_7 : decode cX6_note 7 = .ok (.aload_n 0, 1) := by decide +kernel
theorem dX6_note_8 : decode cX6_note 8 = .ok (.getfield 48, 3) := by decide +kernel
theorem dX6_note_11 : decode cX6_note 11 = .ok (.aload_n 0, 1) := by decide +kernel
theorem dX6_note_12 : decode cX6_note 12 = .ok (.getfield 129, 3) := by decide +kernel
theorem dX6_note_15 : decode cX6_note 15 = .ok (.iload_n 1, 1) := by decide +kernel
theorem dX6_note_16 : decode cX6_note 16 = .ok (.iastore, 1) := by decide +kernel
theorem dX6_note_17 : decode cX6_note 17 = .ok (.aload_n 0, 1) := by decide +kernel
theorem dX6_note_18 : decode cX6_note 18 = .ok (.getfield 51, 3) := by decide +kernel
theorem dX6_note_21 : decode cX6_note 21 = .ok (.aload_n 0, 1) := by decide +kernel
theorem dX6_note_22 : decode cX6_note 22 = .ok (.getfield 129, 3) := by decide +kernel
theorem dX6_note_25 : decode cX6_note 25 = .ok (.iload_n 2, 1) := by decide +kernel
theorem dX6_note_26 : decode cX6_note 26 = .ok (.iastore, 1) := by decide +kernel
theorem dX6_note_27 : decode cX6_note 27 = .ok (.aload_n 0, 1) := by decide +kernel
theorem dX6_note_28 : decode cX6_note 28 = .ok (.getfield 54, 3) := by decide +kernel
theorem dX6_note_31 : decode cX6_note 31 = .ok (.aload_n 0, 1) := by decide +kernel
theorem dX6_note_32 : decode cX6_note 32 = .ok (.getfield 129, 3) := by decide +kernel
theorem dX6_note_35 : decode cX6_note 35 = .ok (.iload_n 3, 1) := by decide +kernel
theorem dX6_note_36 : decode cX6_note 36 = .ok (.iastore, 1) := by decide +kernel
theorem dX6_note_37 : decode cX6_note 37 = .ok (.aload_n 0, 1) := by decide +kernel
theorem dX6_note_38 : decode cX6_note 38 = .ok (.getfield 57, 3) := by decide +kernel
theorem dX6_note_41 : decode cX6_note 41 = .ok (.aload_n 0, 1) := by decide +kernel
theorem dX6_note_42 : decode cX6_note 42 = .ok (.getfield 129, 3) := by decide +kernel
theorem dX6_note_45 : decode cX6_note 45 = .ok (.lload 4, 2) := by decide +kernel
theorem dX6_note_47 : decode cX6_note 47 = .ok (.lastore, 1) := by decide +kernel
theorem dX6_note_48 : decode cX6_note 48 = .ok (.aload_n 0, 1) := by decide +kernel
theorem dX6_note_49 : decode cX6_note 49 = .ok (.dup, 1) := by decide +kernel
theorem dX6_note_50 : decode cX6_note 50 = .ok (.getfield 129, 3) := by decide +kernel
theorem dX6_note_53 : decode cX6_note 53 = .ok (.iconst 1, 1) := by decide +kernel
theorem dX6_note_54 : decode cX6_note 54 = .ok (.iadd, 1) := by decide +kernel
theorem dX6_note_55 : decode cX6_note 55 = .ok (.putfield 129, 3) := by decide +kernel
theorem dX6_note_58 : decode cX6_note 58 = .ok (.return_, 1) := by decide +kernel
set_option maxRecDepth 20000 in
theorem ggX6_find_X6_run : GoodIn wsX6_find wsX6_run := goodIn_r _ [13, 7, 14, 5, 15, 16, 3, 6, 17, 18, 19, 12, 20, 21, 2, 22, 46, 47, 48, 49, 50, 51, 52, 53, 54, 55, 56, 57, 58, 59, 60, 61, 62, 63, 64, 65, 66, 67, 68, 69, 70] (by decide +kernel) (by decide +kernel)
set_option maxRecDepth 20000 in
theorem gX6_find_X6_run : GoodIn wsX6_find (wsV RX6 110 RX6 yX6_run wsX6_run) := goodIn_app (goodIn_of _ (by decide +kernel)) ggX6_find_X6_run
set_option maxRecDepth 20000 in
theorem ggX6_find_X6_note : GoodIn wsX6_find wsX6_note := goodIn_r _ [26, 27, 1, 28, 29, 30, 46, 47, 48, 49, 50, 51, 52, 53, 54, 55, 56, 57, 58, 59, 60, 61, 62, 63, 64, 65, 66, 67, 68, 69, 70] (by decide +kernel) (by decide +kernel)
set_option maxRecDepth 20000 in
theorem gX6_find_X6_note : GoodIn wsX6_find (wsV RX6 132 RX6 yX6_note wsX6_note) := goodIn_app (goodIn_of _ (by decide +kernel)) ggX6_find_X6_note
set_option maxRecDepth 20000 in
theorem ggX6_find_X6_overOf : GoodIn wsX6_find wsX6_overOf := goodIn_r _ [34, 35, 36, 37, 38, 12, 39, 2, 6, 7, 40, 41, 42, 43, 44, 45, 3, 46, 47, 48, 49, 50, 51, 52, 53, 54, 55, 56, 57, 58, 59, 60, 61, 62, 63, 64, 65, 66, 67, 68, 69, 70] (by decide +kernel) (by decide +kernel)
set_option maxRecDepth 20000 in
theorem gX6_find_X6_overOf : GoodIn wsX6_find (wsV RX6 121 RX6 yX6_overOf wsX6_overOf) := goodIn_app (goodIn_of _ (by decide +kernel)) ggX6_find_X6_overOf
theorem dX6_find_0 : decode cX6_find 0 = .ok (.aload_n 0, 1) := by decide +kernel
theorem dX6_find_1 : decode cX6_find 1 = .ok (.iconst 0, 1) := by decide +kernel
theorem dX6_find_2 : decode cX6_find 2 = .ok (.putfield 129, 3) := by decide +kernel
theorem dX6_find_5 : decode cX6_find 5 = .ok (.iconst 0, 1) := by decide +kernel
theorem dX6_find_6 : decode cX6_find 6 = .ok (.istore_n 1, 1) := by decide +kernel
theorem dX6_find_7 : decode cX6_find 7 = .ok (.iload_n 1, 1) := by decide +kernel
theorem dX6_find_8 : decode cX6_find 8 = .ok (.aload_n 0, 1) := by decide +kernel
theorem dX6_find_9 : decode cX6_find 9 = .ok (.getfield 76, 3) := by decide +kernel
theorem dX6_find_12 : decode cX6_find 12 = .ok (.if_icmp .ge 47, 3) := by decide +kernel
theorem dX6_find_15 : decode cX6_find 15 = .ok (.aload_n 0, 1) := by decide +kernel
theorem dX6_find_16 : decode cX6_find 16 = .ok (.iload_n 1, 1) := by decide +kernel
theorem dX6_find_17 : decode cX6_find 17 = .ok (.invokevirtual 110, 3) := by decide +kernel
theorem dX6_find_20 : decode cX6_find 20 = .ok (.iconst 1, 1) := by decide +kernel
theorem dX6_find_21 : decode cX6_find 21 = .ok (.istore_n 2, 1) := by decide +kernel
theorem dX6_find_22 : decode cX6_find 22 = .ok (.iload_n 2, 1) := by decide +kernel
theorem dX6_find_23 : decode cX6_find 23 = .ok (.aload_n 0, 1) := by decide +kernel
theorem dX6_find_24 : decode cX6_find 24 = .ok (.getfield 69, 3) := by decide +kernel
theorem dX6_find_27 : decode cX6_find 27 = .ok (.if_icmp .gt 26, 3) := by decide +kernel
theorem dX6_find_30 : decode cX6_find 30 = .ok (.aload_n 0, 1) := by decide +kernel
theorem dX6_find_31 : decode cX6_find 31 = .ok (.getfield 60, 3) := by decide +kernel
theorem dX6_find_34 : decode cX6_find 34 = .ok (.bipush 13, 2) := by decide +kernel
theorem dX6_find_36 : decode cX6_find 36 = .ok (.iload_n 1, 1) := by decide +kernel
theorem dX6_find_37 : decode cX6_find 37 = .ok (.imul, 1) := by decide +kernel
theorem dX6_find_38 : decode cX6_find 38 = .ok (.iload_n 2, 1) := by decide +kernel
theorem dX6_find_39 : decode cX6_find 39 = .ok (.iadd, 1) := by decide +kernel
theorem dX6_find_40 : decode cX6_find 40 = .ok (.aload_n 0, 1) := by decide +kernel
theorem dX6_find_41 : decode cX6_find 41 = .ok (.getfield 33, 3) := by decide +kernel
theorem dX6_find_44 : decode cX6_find 44 = .ok (.iload_n 2, 1) := by decide +kernel
theorem dX6_find_45 : decode cX6_find 45 = .ok (.laload, 1) := by decide +kernel
theorem dX6_find_46 : decode cX6_find 46 = .ok (.lastore, 1) := by decide +kernel
theorem dX6_find_47 : decode cX6_find 47 = .ok (.iinc 2 1, 3) := by decide +kernel
theorem dX6_find_50 : decode cX6_find 50 = .ok (.goto (-28), 3) := by decide +kernel
theorem dX6_find_53 : decode cX6_find 53 = .ok (.iinc 1 1, 3) := by decide +kernel
theorem dX6_find_56 : decode cX6_find 56 = .ok (.goto (-49), 3) := by decide +kernel
theorem dX6_find_59 : decode cX6_find 59 = .ok (.iconst 1, 1) := by decide +kernel
theorem dX6_find_60 : decode cX6_find 60 = .ok (.istore_n 1, 1) := by decide +kernel
theorem dX6_find_61 : decode cX6_find 61 = .ok (.iload_n 1, 1) := by decide +kernel
theorem dX6_find_62 : decode cX6_find 62 = .ok (.aload_n 0, 1) := by decide +kernel
theorem dX6_find_63 : decode cX6_find 63 = .ok (.getfield 69, 3) := by decide +kernel
theorem dX6_find_66 : decode cX6_find 66 = .ok (.if_icmp .gt 119, 3) := by decide +kernel
theorem dX6_find_69 : decode cX6_find 69 = .ok (.iconst 0, 1) := by decide +kernel
theorem dX6_find_70 : decode cX6_find 70 = .ok (.istore_n 2, 1) := by decide +kernel
theorem dX6_find_71 : decode cX6_find 71 = .ok (.iload_n 2, 1) := by decide +kernel
theorem dX6_find_72 : decode cX6_find 72 = .ok (.aload_n 0, 1) := by decide +kernel
theorem dX6_find_73 : decode cX6_find 73 = .ok (.getfield 76, 3) := by decide +kernel
theorem dX6_find_76 : decode cX6_find 76 = .ok (.if_icmp .ge 27, 3) := by decide +kernel
theorem dX6_find_79 : decode cX6_find 79 = .ok (.aload_n 0, 1) := by decide +kernel
theorem dX6_find_80 : decode cX6_find 80 = .ok (.iconst 1, 1) := by decide +kernel
theorem dX6_find_81 : decode cX6_find 81 = .ok (.iload_n 1, 1) := by decide +kernel
theorem dX6_find_82 : decode cX6_find 82 = .ok (.iload_n 2, 1) := by decide +kernel
theorem dX6_find_83 : decode cX6_find 83 = .ok (.aload_n 0, 1) := by decide +kernel
theorem dX6_find_84 : decode cX6_find 84 = .ok (.getfield 60, 3) := by decide +kernel
theorem dX6_find_87 : decode cX6_find 87 = .ok (.bipush 13, 2) := by decide +kernel
theorem dX6_find_89 : decode cX6_find 89 = .ok (.iload_n 2, 1) := by decide +kernel
theorem dX6_find_90 : decode cX6_find 90 = .ok (.imul, 1) := by decide +kernel
theorem dX6_find_91 : decode cX6_find 91 = .ok (.iload_n 1, 1) := by decide +kernel
theorem dX6_find_92 : decode cX6_find 92 = .ok (.iadd, 1) := by decide +kernel
theorem dX6_find_93 : decode cX6_find 93 = .ok (.laload, 1) := by decide +kernel
theorem dX6_find_94 : decode cX6_find 94 = .ok (.invokevirtual 132, 3) := by decide +kernel
theorem dX6_find_97 : decode cX6_find 97 = .ok (.iinc 2 1, 3) := by decide +kernel
theorem dX6_find_100 : decode cX6_find 100 = .ok (.goto (-29), 3) := by decide +kernel
theorem dX6_find_103 : decode cX6_find 103 = .ok (.iconst 0, 1) := by decide +kernel
theorem dX6_find_104 : decode cX6_find 104 = .ok (.istore_n 2, 1) := by decide +kernel
theorem dX6_find_105 : decode cX6_find 105 = .ok (.iload_n 2, 1) := by decide +kernel
theorem dX6_find_106 : decode cX6_find 106 = .ok (.aload_n 0, 1) := by decide +kernel
theorem dX6_find_107 : decode cX6_find 107 = .ok (.getfield 76, 3) := by decide +kernel
theorem dX6_find_110 : decode cX6_find 110 = .ok (.if_icmp .ge 50, 3) := by decide +kernel
theorem dX6_find_113 : decode cX6_find 113 = .ok (.aload_n 0, 1) := by decide +kernel
theorem dX6_find_114 : decode cX6_find 114 = .ok (.getfield 16, 3) := by decide +kernel
theorem dX6_find_117 : decode cX6_find 117 = .ok (.bipush 13, 2) := by decide +kernel
theorem dX6_find_119 : decode cX6_find 119 = .ok (.iload_n 2, 1) := by decide +kernel
theorem dX6_find_120 : decode cX6_find 120 = .ok (.imul, 1) := by decide +kernel
theorem dX6_find_121 : decode cX6_find 121 = .ok (.iload_n 1, 1) := by decide +kernel
theorem dX6_find_122 : decode cX6_find 122 = .ok (.iadd, 1) := by decide +kernel
theorem dX6_find_123 : decode cX6_find 123 = .ok (.iaload, 1) := by decide +kernel
theorem dX6_find_124 : decode cX6_find 124 = .ok (.istore_n 3, 1) := by decide +kernel
theorem dX6_find_125 : decode cX6_find 125 = .ok (.aload_n 0, 1) := by decide +kernel
theorem dX6_find_126 : decode cX6_find 126 = .ok (.iconst 2, 1) := by decide +kernel
theorem dX6_find_127 : decode cX6_find 127 = .ok (.iload_n 1, 1) := by decide +kernel
theorem dX6_find_128 : decode cX6_find 128 = .ok (.iload_n 2, 1) := by decide +kernel
theorem dX6_find_129 : decode cX6_find 129 = .ok (.iload_n 3, 1) := by decide +kernel
theorem dX6_find_130 : decode cX6_find 130 = .ok (.ifCond .le 20, 3) := by decide +kernel
theorem dX6_find_133 : decode cX6_find 133 = .ok (.aload_n 0, 1) := by decide +kernel
theorem dX6_find_134 : decode cX6_find 134 = .ok (.getfield 7, 3) := by decide +kernel
theorem dX6_find_137 : decode cX6_find 137 = .ok (.bipush 8, 2) := by decide +kernel
theorem dX6_find_139 : decode cX6_find 139 = .ok (.iload_n 2, 1) := by decide +kernel
theorem dX6_find_140 : decode cX6_find 140 = .ok (.imul, 1) := by decide +kernel
theorem dX6_find_141 : decode cX6_find 141 = .ok (.iconst 2, 1) := by decide +kernel
theorem dX6_find_142 : decode cX6_find 142 = .ok (.iadd, 1) := by decide +kernel
theorem dX6_find_143 : decode cX6_find 143 = .ok (.iaload, 1) := by decide +kernel
theorem dX6_find_144 : decode cX6_find 144 = .ok (.iload_n 3, 1) := by decide +kernel
theorem dX6_find_145 : decode cX6_find 145 = .ok (.isub, 1) := by decide +kernel
theorem dX6_find_146 : decode cX6_find 146 = .ok (.i2l, 1) := by decide +kernel
theorem dX6_find_147 : decode cX6_find 147 = .ok (.goto 4, 3) := by decide +kernel
theorem dX6_find_150 : decode cX6_find 150 = .ok (.lconst 0, 1) := by decide +kernel
theorem dX6_find_151 : decode cX6_find 151 = .ok (.invokevirtual 132, 3) := by decide +kernel
theorem dX6_find_154 : decode cX6_find 154 = .ok (.iinc 2 1, 3) := by decide +kernel
theorem dX6_find_157 : decode cX6_find 157 = .ok (.goto (-52), 3) := by decide +kernel
theorem dX6_find_160 : decode cX6_find 160 = .ok (.aload_n 0, 1) := by decide +kernel
theorem dX6_find_161 : decode cX6_find 161 = .ok (.iconst 3, 1) := by decide +kernel
theorem dX6_find_162 : decode cX6_find 162 = .ok (.iload_n 1, 1) := by decide +kernel
theorem dX6_find_163 : decode cX6_find 163 = .ok (.bipush (-3), 2) := by decide +kernel
theorem dX6_find_165 : decode cX6_find 165 = .ok (.aload_n 0, 1) := by decide +kernel
theorem dX6_find_166 : decode cX6_find 166 = .ok (.iload_n 1, 1) := by decide +kernel
theorem dX6_find_167 : decode cX6_find 167 = .ok (.invokevirtual 121, 3) := by decide +kernel
theorem dX6_find_170 : decode cX6_find 170 = .ok (.aload_n 0, 1) := by decide +kernel
theorem dX6_find_171 : decode cX6_find 171 = .ok (.getfield 101, 3) := by decide +kernel
theorem dX6_find_174 : decode cX6_find 174 = .ok (.i2l, 1) := by decide +kernel
theorem dX6_find_175 : decode cX6_find 175 = .ok (.lsub, 1) := by decide +kernel
theorem dX6_find_176 : decode cX6_find 176 = .ok (.invokevirtual 132, 3) := by decide +kernel
theorem dX6_find_179 : decode cX6_find 179 = .ok (.iinc 1 1, 3) := by decide +kernel
theorem dX6_find_182 : decode cX6_find 182 = .ok (.goto (-121), 3) := by decide +kernel
theorem dX6_find_185 : decode cX6_find 185 = .ok (.return_, 1) := by decide +kernel
set_option maxRecDepth 20000 in
theorem ggX6_faults_X6_find : GoodIn wsX6_faults wsX6_find := goodIn_r _ [7, 2, 8, 9, 10, 11, 12, 13, 14, 15, 16, 17, 6, 18, 19, 20, 21, 22, 23, 24, 25, 26, 27, 28, 29, 30, 31, 32, 33, 34, 35, 36, 37, 38, 39, 40, 41, 42, 43, 44, 45, 46, 47, 48, 49, 50, 51, 52, 53, 54, 55, 56, 57, 58, 59, 60, 61, 62, 63, 64, 65, 66, 67, 68, 69, 70, 71, 72, 73, 74, 75] (by decide +kernel) (by decide +kernel)
set_option maxRecDepth 20000 in
theorem gX6_faults_X6_find : GoodIn wsX6_faults (wsV RX6 136 RX6 yX6_find wsX6_find) := goodIn_app (goodIn_of _ (by decide +kernel)) ggX6_faults_X6_find
theorem dX6_faults_0 : decode cX6_faults 0 = .ok (.aload_n 0, 1) := by decide +kernel
theorem dX6_faults_1 : decode cX6_faults 1 = .ok (.iconst 0, 1) := by decide +kernel
theorem dX6_faults_2 : decode cX6_faults 2 = .ok (.putfield 73, 3) := by decide +kernel
theorem dX6_faults_5 : decode cX6_faults 5 = .ok (.aload_n 0, 1) := by decide +kernel
theorem dX6_faults_6 : decode cX6_faults 6 = .ok (.invokevirtual 136, 3) := by decide +kernel
theorem dX6_faults_9 : decode cX6_faults 9 = .ok (.aload_n 0, 1) := by decide +kernel
theorem dX6_faults_10 : decode cX6_faults 10 = .ok (.getfield 129, 3) := by decide +kernel
theorem dX6_faults_13 : decode cX6_faults 13 = .ok (.ireturn, 1) := by decide +kernel
set_option maxRecDepth 20000 in
theorem ggX6_fault_X6_find : GoodIn wsX6_fault wsX6_find := goodIn_r _ [11, 2, 12, 13, 14, 15, 16, 17, 18, 19, 20, 21, 10, 22, 23, 24, 25, 26, 27, 28, 29, 30, 31, 32, 33, 34, 35, 3, 4, 5, 6, 36, 37, 38, 39, 40, 41, 42, 43, 44, 45, 46, 47, 48, 49, 50, 54, 55, 56, 57, 58, 59, 60, 61, 62, 63, 64, 65, 66, 67, 68, 69, 70, 71, 72, 73, 74, 75, 76, 77, 78] (by decide +kernel) (by decide +kernel)
set_option maxRecDepth 20000 in
theorem gX6_fault_X6_find : GoodIn wsX6_fault (wsV RX6 136 RX6 yX6_find wsX6_find) := goodIn_app (goodIn_of _ (by decide +kernel)) ggX6_fault_X6_find
set_option maxRecDepth 20000 in
theorem ggX6_fault_X6_in : GoodIn wsX6_fault wsX6_in := goodIn_r _ [53] (by decide +kernel) (by decide +kernel)
set_option maxRecDepth 20000 in
theorem gX6_fault_X6_in : GoodIn wsX6_fault (va_wsS RX6 79 yX6_in wsX6_in) := goodIn_app (goodIn_of _ (by decide +kernel)) ggX6_fault_X6_in
theorem dX6_fault_0 : decode cX6_fault 0 = .ok (.aload_n 0, 1) := by decide +kernel
theorem dX6_fault_1 : decode cX6_fault 1 = .ok (.iconst 0, 1) := by decide +kernel
theorem dX6_fault_2 : decode cX6_fault 2 = .ok (.putfield 73, 3) := by decide +kernel
theorem dX6_fault_5 : decode cX6_fault 5 = .ok (.aload_n 0, 1) := by decide +kernel
theorem dX6_fault_6 : decode cX6_fault 6 = .ok (.invokevirtual 136, 3) := by decide +kernel
theorem dX6_fault_9 : decode cX6_fault 9 = .ok (.iload_n 1, 1) := by decide +kernel
theorem dX6_fault_10 : decode cX6_fault 10 = .ok (.iconst 0, 1) := by decide +kernel
theorem dX6_fault_11 : decode cX6_fault 11 = .ok (.aload_n 0, 1) := by decide +kernel
theorem dX6_fault_12 : decode cX6_fault 12 = .ok (.getfield 129, 3) := by decide +kernel
theorem dX6_fault_15 : decode cX6_fault 15 = .ok (.iconst 1, 1) := by decide +kernel
theorem dX6_fault_16 : decode cX6_fault 16 = .ok (.isub, 1) := by decide +kernel
theorem dX6_fault_17 : decode cX6_fault 17 = .ok (.invokestatic 79, 3) := by decide +kernel
theorem dX6_fault_20 : decode cX6_fault 20 = .ok (.ifCond .ne 5, 3) := by decide +kernel
theorem dX6_fault_23 : decode cX6_fault 23 = .ok (.iconst (-1), 1) := by decide +kernel
theorem dX6_fault_24 : decode cX6_fault 24 = .ok (.ireturn, 1) := by decide +kernel
theorem dX6_fault_25 : decode cX6_fault 25 = .ok (.iload_n 2, 1) := by decide +kernel
theorem dX6_fault_26 : decode cX6_fault 26 = .ok (.tableswitch 59 0 3 #[30, 37, 44, 51], 30) := by decide +kernel
theorem dX6_fault_56 : decode cX6_fault 56 = .ok (.aload_n 0, 1) := by decide +kernel
theorem dX6_fault_57 : decode cX6_fault 57 = .ok (.getfield 48, 3) := by decide +kernel
theorem dX6_fault_60 : decode cX6_fault 60 = .ok (.iload_n 1, 1) := by decide +kernel
theorem dX6_fault_61 : decode cX6_fault 61 = .ok (.iaload, 1) := by decide +kernel
theorem dX6_fault_62 : decode cX6_fault 62 = .ok (.ireturn, 1) := by decide +kernel
theorem dX6_fault_63 : decode cX6_fault 63 = .ok (.aload_n 0, 1) := by decide +kernel
theorem dX6_fault_64 : decode cX6_fault 64 = .ok (.getfield 51, 3) := by decide +kernel
theorem dX6_fault_67 : decode cX6_fault 67 = .ok (.iload_n 1, 1) := by decide +kernel
theorem dX6_fault_68 : decode cX6_fault 68 = .ok (.iaload, 1) := by decide +kernel
theorem dX6_fault_69 : decode cX6_fault 69 = .ok (.ireturn, 1) := by decide +kernel
theorem dX6_fault_70 : decode cX6_fault 70 = .ok (.aload_n 0, 1) := by decide +kernel
theorem dX6_fault_71 : decode cX6_fault 71 = .ok (.getfield 54, 3) := by decide +kernel
theorem dX6_fault_74 : decode cX6_fault 74 = .ok (.iload_n 1, 1) := by decide +kernel
theorem dX6_fault_75 : decode cX6_fault 75 = .ok (.iaload, 1) := by decide +kernel
theorem dX6_fault_76 : decode cX6_fault 76 = .ok (.ireturn, 1) := by decide +kernel
theorem dX6_fault_77 : decode cX6_fault 77 = .ok (.aload_n 0, 1) := by decide +kernel
theorem dX6_fault_78 : decode cX6_fault 78 = .ok (.getfield 57, 3) := by decide +kernel
theorem dX6_fault_81 : decode cX6_fault 81 = .ok (.iload_n 1, 1) := by decide +kernel
theorem dX6_fault_82 : decode cX6_fault 82 = .ok (.laload, 1) := by decide +kernel
theorem dX6_fault_83 : decode cX6_fault 83 = .ok (.l2i, 1) := by decide +kernel
theorem dX6_fault_84 : decode cX6_fault 84 = .ok (.ireturn, 1) := by decide +kernel
theorem dX6_fault_85 : decode cX6_fault 85 = .ok (.bipush (-2), 2) := by decide +kernel
theorem dX6_fault_87 : decode cX6_fault 87 = .ok (.ireturn, 1) := by decide +kernel
set_option maxRecDepth 20000 in
theorem ggX6_alone_X6_last : GoodIn wsX6_alone wsX6_last := goodIn_r _ [11, 1, 2, 16, 17, 18, 19, 20, 21, 22, 23, 24, 25, 26, 27, 28, 29, 30, 31, 32, 33, 34, 35, 36, 37, 38, 39, 40] (by decide +kernel) (by decide +kernel)
set_option maxRecDepth 20000 in
theorem gX6_alone_X6_last : GoodIn wsX6_alone (wsV RX6 139 RX6 yX6_last wsX6_last) := goodIn_app (goodIn_of _ (by decide +kernel)) ggX6_alone_X6_last
set_option maxRecDepth 20000 in
theorem ggX6_alone_X6_priceTo : GoodIn wsX6_alone wsX6_priceTo := goodIn_r _ [15, 1, 5, 4, 16, 17, 18, 19, 20, 21, 22, 23, 24, 25, 26, 27, 28, 29, 30, 31, 32, 33, 34, 35, 36, 37, 38, 39, 40] (by decide +kernel) (by decide +kernel)
set_option maxRecDepth 20000 in
theorem gX6_alone_X6_priceTo : GoodIn wsX6_alone (wsV RX6 142 RX6 yX6_priceTo wsX6_priceTo) := goodIn_app (goodIn_of _ (by decide +kernel)) ggX6_alone_X6_priceTo
theorem dX6_alone_0 : decode cX6_alone 0 = .ok (.aload_n 0, 1) := by decide +kernel
theorem dX6_alone_1 : decode cX6_alone 1 = .ok (.getfield 7, 3) := by decide +kernel
theorem dX6_alone_4 : decode cX6_alone 4 = .ok (.bipush 8, 2) := by decide +kernel
theorem dX6_alone_6 : decode cX6_alone 6 = .ok (.iload_n 1, 1) := by decide +kernel
theorem dX6_alone_7 : decode cX6_alone 7 = .ok (.imul, 1) := by decide +kernel
theorem dX6_alone_8 : decode cX6_alone 8 = .ok (.iconst 4, 1) := by decide +kernel
theorem dX6_alone_9 : decode cX6_alone 9 = .ok (.iadd, 1) := by decide +kernel
theorem dX6_alone_10 : decode cX6_alone 10 = .ok (.iaload, 1) := by decide +kernel
theorem dX6_alone_11 : decode cX6_alone 11 = .ok (.istore_n 2, 1) := by decide +kernel
theorem dX6_alone_12 : decode cX6_alone 12 = .ok (.iconst 1, 1) := by decide +kernel
theorem dX6_alone_13 : decode cX6_alone 13 = .ok (.istore_n 3, 1) := by decide +kernel
theorem dX6_alone_14 : decode cX6_alone 14 = .ok (.iload_n 3, 1) := by decide +kernel
theorem dX6_alone_15 : decode cX6_alone 15 = .ok (.aload_n 0, 1) := by decide +kernel
theorem dX6_alone_16 : decode cX6_alone 16 = .ok (.getfield 69, 3) := by decide +kernel
theorem dX6_alone_19 : decode cX6_alone 19 = .ok (.if_icmp .gt 66, 3) := by decide +kernel
theorem dX6_alone_22 : decode cX6_alone 22 = .ok (.iload_n 2, 1) := by decide +kernel
theorem dX6_alone_23 : decode cX6_alone 23 = .ok (.aload_n 0, 1) := by decide +kernel
theorem dX6_alone_24 : decode cX6_alone 24 = .ok (.getfield 13, 3) := by decide +kernel
theorem dX6_alone_27 : decode cX6_alone 27 = .ok (.bipush 13, 2) := by decide +kernel
theorem dX6_alone_29 : decode cX6_alone 29 = .ok (.iload_n 1, 1) := by decide +kernel
theorem dX6_alone_30 : decode cX6_alone 30 = .ok (.imul, 1) := by decide +kernel
theorem dX6_alone_31 : decode cX6_alone 31 = .ok (.iload_n 3, 1) := by decide +kernel
theorem dX6_alone_32 : decode cX6_alone 32 = .ok (.iadd, 1) := by decide +kernel
theorem dX6_alone_33 : decode cX6_alone 33 = .ok (.iaload, 1) := by decide +kernel
theorem dX6_alone_34 : decode cX6_alone 34 = .ok (.if_icmp .ge 7, 3) := by decide +kernel
theorem dX6_alone_37 : decode cX6_alone 37 = .ok (.iload_n 2, 1) := by decide +kernel
theorem dX6_alone_38 : decode cX6_alone 38 = .ok (.goto 14, 3) := by decide +kernel
theorem dX6_alone_41 : decode cX6_alone 41 = .ok (.aload_n 0, 1) := by decide +kernel
theorem dX6_alone_42 : decode cX6_alone 42 = .ok (.getfield 13, 3) := by decide +kernel
theorem dX6_alone_45 : decode cX6_alone 45 = .ok (.bipush 13, 2) := by decide +kernel
theorem dX6_alone_47 : decode cX6_alone 47 = .ok (.iload_n 1, 1) := by decide +kernel
theorem dX6_alone_48 : decode cX6_alone 48 = .ok (.imul, 1) := by decide +kernel
theorem dX6_alone_49 : decode cX6_alone 49 = .ok (.iload_n 3, 1) := by decide +kernel
theorem dX6_alone_50 : decode cX6_alone 50 = .ok (.iadd, 1) := by decide +kernel
theorem dX6_alone_51 : decode cX6_alone 51 = .ok (.iaload, 1) := by decide +kernel
theorem dX6_alone_52 : decode cX6_alone 52 = .ok (.istore 4, 2) := by decide +kernel
theorem dX6_alone_54 : decode cX6_alone 54 = .ok (.aload_n 0, 1) := by decide +kernel
theorem dX6_alone_55 : decode cX6_alone 55 = .ok (.getfield 63, 3) := by decide +kernel
theorem dX6_alone_58 : decode cX6_alone 58 = .ok (.iload_n 3, 1) := by decide +kernel
theorem dX6_alone_59 : decode cX6_alone 59 = .ok (.aload_n 0, 1) := by decide +kernel
theorem dX6_alone_60 : decode cX6_alone 60 = .ok (.getfield 13, 3) := by decide +kernel
theorem dX6_alone_63 : decode cX6_alone 63 = .ok (.bipush 13, 2) := by decide +kernel
theorem dX6_alone_65 : decode cX6_alone 65 = .ok (.iload_n 1, 1) := by decide +kernel
theorem dX6_alone_66 : decode cX6_alone 66 = .ok (.imul, 1) := by decide +kernel
theorem dX6_alone_67 : decode cX6_alone 67 = .ok (.iload_n 3, 1) := by decide +kernel
theorem dX6_alone_68 : decode cX6_alone 68 = .ok (.iadd, 1) := by decide +kernel
theorem dX6_alone_69 : decode cX6_alone 69 = .ok (.iaload, 1) := by decide +kernel
theorem dX6_alone_70 : decode cX6_alone 70 = .ok (.iload 4, 2) := by decide +kernel
theorem dX6_alone_72 : decode cX6_alone 72 = .ok (.isub, 1) := by decide +kernel
theorem dX6_alone_73 : decode cX6_alone 73 = .ok (.iastore, 1) := by decide +kernel
theorem dX6_alone_74 : decode cX6_alone 74 = .ok (.iload_n 2, 1) := by decide +kernel
theorem dX6_alone_75 : decode cX6_alone 75 = .ok (.iload 4, 2) := by decide +kernel
theorem dX6_alone_77 : decode cX6_alone 77 = .ok (.isub, 1) := by decide +kernel
theorem dX6_alone_78 : decode cX6_alone 78 = .ok (.istore_n 2, 1) := by decide +kernel
theorem dX6_alone_79 : decode cX6_alone 79 = .ok (.iinc 3 1, 3) := by decide +kernel
theorem dX6_alone_82 : decode cX6_alone 82 = .ok (.goto (-68), 3) := by decide +kernel
theorem dX6_alone_85 : decode cX6_alone 85 = .ok (.aload_n 0, 1) := by decide +kernel
theorem dX6_alone_86 : decode cX6_alone 86 = .ok (.getfield 66, 3) := by decide +kernel
theorem dX6_alone_89 : decode cX6_alone 89 = .ok (.aload_n 0, 1) := by decide +kernel
theorem dX6_alone_90 : decode cX6_alone 90 = .ok (.getfield 69, 3) := by decide +kernel
theorem dX6_alone_93 : decode cX6_alone 93 = .ok (.iconst 1, 1) := by decide +kernel
theorem dX6_alone_94 : decode cX6_alone 94 = .ok (.iadd, 1) := by decide +kernel
theorem dX6_alone_95 : decode cX6_alone 95 = .ok (.lconst 0, 1) := by decide +kernel
theorem dX6_alone_96 : decode cX6_alone 96 = .ok (.lastore, 1) := by decide +kernel
theorem dX6_alone_97 : decode cX6_alone 97 = .ok (.aload_n 0, 1) := by decide +kernel
theorem dX6_alone_98 : decode cX6_alone 98 = .ok (.getfield 69, 3) := by decide +kernel
theorem dX6_alone_101 : decode cX6_alone 101 = .ok (.istore_n 3, 1) := by decide +kernel
theorem dX6_alone_102 : decode cX6_alone 102 = .ok (.iload_n 3, 1) := by decide +kernel
theorem dX6_alone_103 : decode cX6_alone 103 = .ok (.iconst 1, 1) := by decide +kernel
theorem dX6_alone_104 : decode cX6_alone 104 = .ok (.if_icmp .lt 101, 3) := by decide +kernel
theorem dX6_alone_107 : decode cX6_alone 107 = .ok (.aload_n 0, 1) := by decide +kernel
theorem dX6_alone_108 : decode cX6_alone 108 = .ok (.getfield 66, 3) := by decide +kernel
theorem dX6_alone_111 : decode cX6_alone 111 = .ok (.iload_n 3, 1) := by decide +kernel
theorem dX6_alone_112 : decode cX6_alone 112 = .ok (.aload_n 0, 1) := by decide +kernel
theorem dX6_alone_113 : decode cX6_alone 113 = .ok (.getfield 63, 3) := by decide +kernel
theorem dX6_alone_116 : decode cX6_alone 116 = .ok (.iload_n 3, 1) := by decide +kernel
theorem dX6_alone_117 : decode cX6_alone 117 = .ok (.iaload, 1) := by decide +kernel
theorem dX6_alone_118 : decode cX6_alone 118 = .ok (.ifCond .ne 14, 3) := by decide +kernel
theorem dX6_alone_121 : decode cX6_alone 121 = .ok (.aload_n 0, 1) := by decide +kernel
theorem dX6_alone_122 : decode cX6_alone 122 = .ok (.getfield 66, 3) := by decide +kernel
theorem dX6_alone_125 : decode cX6_alone 125 = .ok (.iload_n 3, 1) := by decide +kernel
theorem dX6_alone_126 : decode cX6_alone 126 = .ok (.iconst 1, 1) := by decide +kernel
theorem dX6_alone_127 : decode cX6_alone 127 = .ok (.iadd, 1) := by decide +kernel
theorem dX6_alone_128 : decode cX6_alone 128 = .ok (.laload, 1) := by decide +kernel
theorem dX6_alone_129 : decode cX6_alone 129 = .ok (.goto 6, 3) := by decide +kernel
theorem dX6_alone_132 : decode cX6_alone 132 = .ok (.ldc2_w 108, 3) := by decide +kernel
theorem dX6_alone_135 : decode cX6_alone 135 = .ok (.lastore, 1) := by decide +kernel
theorem dX6_alone_136 : decode cX6_alone 136 = .ok (.iload_n 3, 1) := by decide +kernel
theorem dX6_alone_137 : decode cX6_alone 137 = .ok (.istore 4, 2) := by decide +kernel
theorem dX6_alone_139 : decode cX6_alone 139 = .ok (.iload 4, 2) := by decide +kernel
theorem dX6_alone_141 : decode cX6_alone 141 = .ok (.aload_n 0, 1) := by decide +kernel
theorem dX6_alone_142 : decode cX6_alone 142 = .ok (.iload_n 1, 1) := by decide +kernel
theorem dX6_alone_143 : decode cX6_alone 143 = .ok (.iload_n 3, 1) := by decide +kernel
theorem dX6_alone_144 : decode cX6_alone 144 = .ok (.invokevirtual 139, 3) := by decide +kernel
theorem dX6_alone_147 : decode cX6_alone 147 = .ok (.if_icmp .gt 52, 3) := by decide +kernel
theorem dX6_alone_150 : decode cX6_alone 150 = .ok (.aload_n 0, 1) := by decide +kernel
theorem dX6_alone_151 : decode cX6_alone 151 = .ok (.iload_n 1, 1) := by decide +kernel
theorem dX6_alone_152 : decode cX6_alone 152 = .ok (.iload_n 3, 1) := by decide +kernel
theorem dX6_alone_153 : decode cX6_alone 153 = .ok (.iload 4, 2) := by decide +kernel
theorem dX6_alone_155 : decode cX6_alone 155 = .ok (.invokevirtual 142, 3) := by decide +kernel
theorem dX6_alone_158 : decode cX6_alone 158 = .ok (.lstore 5, 2) := by decide +kernel
theorem dX6_alone_160 : decode cX6_alone 160 = .ok (.aload_n 0, 1) := by decide +kernel
theorem dX6_alone_161 : decode cX6_alone 161 = .ok (.getfield 66, 3) := by decide +kernel
theorem dX6_alone_164 : decode cX6_alone 164 = .ok (.iload_n 3, 1) := by decide +kernel
theorem dX6_alone_165 : decode cX6_alone 165 = .ok (.laload, 1) := by decide +kernel
theorem dX6_alone_166 : decode cX6_alone 166 = .ok (.ldc2_w 108, 3) := by decide +kernel
theorem dX6_alone_169 : decode cX6_alone 169 = .ok (.lcmp, 1) := by decide +kernel
theorem dX6_alone_170 : decode cX6_alone 170 = .ok (.ifCond .eq 15, 3) := by decide +kernel
theorem dX6_alone_173 : decode cX6_alone 173 = .ok (.lload 5, 2) := by decide +kernel
theorem dX6_alone_175 : decode cX6_alone 175 = .ok (.aload_n 0, 1) := by decide +kernel
theorem dX6_alone_176 : decode cX6_alone 176 = .ok (.getfield 66, 3) := by decide +kernel
theorem dX6_alone_179 : decode cX6_alone 179 = .ok (.iload_n 3, 1) := by decide +kernel
theorem dX6_alone_180 : decode cX6_alone 180 = .ok (.laload, 1) := by decide +kernel
theorem dX6_alone_181 : decode cX6_alone 181 = .ok (.lcmp, 1) := by decide +kernel
theorem dX6_alone_182 : decode cX6_alone 182 = .ok (.ifCond .ge 11, 3) := by decide +kernel
theorem dX6_alone_185 : decode cX6_alone 185 = .ok (.aload_n 0, 1) := by decide +kernel
theorem dX6_alone_186 : decode cX6_alone 186 = .ok (.getfield 66, 3) := by decide +kernel
theorem dX6_alone_189 : decode cX6_alone 189 = .ok (.iload_n 3, 1) := by decide +kernel
theorem dX6_alone_190 : decode cX6_alone 190 = .ok (.lload 5, 2) := by decide +kernel
theorem dX6_alone_192 : decode cX6_alone 192 = .ok (.lastore, 1) := by decide +kernel
theorem dX6_alone_193 : decode cX6_alone 193 = .ok (.iinc 4 1, 3) := by decide +kernel
theorem dX6_alone_196 : decode cX6_alone 196 = .ok (.goto (-57), 3) := by decide +kernel
theorem dX6_alone_199 : decode cX6_alone 199 = .ok (.iinc 3 (-1), 3) := by decide +kernel
theorem dX6_alone_202 : decode cX6_alone 202 = .ok (.goto (-100), 3) := by decide +kernel
theorem dX6_alone_205 : decode cX6_alone 205 = .ok (.return_, 1) := by decide +kernel
theorem dX6_last_0 : decode cX6_last 0 = .ok (.aload_n 0, 1) := by decide +kernel
theorem dX6_last_1 : decode cX6_last 1 = .ok (.getfield 7, 3) := by decide +kernel
theorem dX6_last_4 : decode cX6_last 4 = .ok (.bipush 8, 2) := by decide +kernel
theorem dX6_last_6 : decode cX6_last 6 = .ok (.iload_n 1, 1) := by decide +kernel
theorem dX6_last_7 : decode cX6_last 7 = .ok (.imul, 1) := by decide +kernel
theorem dX6_last_8 : decode cX6_last 8 = .ok (.iconst 3, 1) := by decide +kernel
theorem dX6_last_9 : decode cX6_last 9 = .ok (.iadd, 1) := by decide +kernel
theorem dX6_last_10 : decode cX6_last 10 = .ok (.iaload, 1) := by decide +kernel
theorem dX6_last_11 : decode cX6_last 11 = .ok (.istore_n 3, 1) := by decide +kernel
theorem dX6_last_12 : decode cX6_last 12 = .ok (.iload_n 3, 1) := by decide +kernel
theorem dX6_last_13 : decode cX6_last 13 = .ok (.ifCond .le 19, 3) := by decide +kernel
theorem dX6_last_16 : decode cX6_last 16 = .ok (.iload_n 2, 1) := by decide +kernel
theorem dX6_last_17 : decode cX6_last 17 = .ok (.iload_n 3, 1) := by decide +kernel
theorem dX6_last_18 : decode cX6_last 18 = .ok (.iadd, 1) := by decide +kernel
theorem dX6_last_19 : decode cX6_last 19 = .ok (.aload_n 0, 1) := by decide +kernel
theorem dX6_last_20 : decode cX6_last 20 = .ok (.getfield 69, 3) := by decide +kernel
theorem dX6_last_23 : decode cX6_last 23 = .ok (.if_icmp .ge 9, 3) := by decide +kernel
theorem dX6_last_26 : decode cX6_last 26 = .ok (.iload_n 2, 1) := by decide +kernel
theorem dX6_last_27 : decode cX6_last 27 = .ok (.iload_n 3, 1) := by decide +kernel
theorem dX6_last_28 : decode cX6_last 28 = .ok (.iadd, 1) := by decide +kernel
theorem dX6_last_29 : decode cX6_last 29 = .ok (.goto 7, 3) := by decide +kernel
theorem dX6_last_32 : decode cX6_last 32 = .ok (.aload_n 0, 1) := by decide +kernel
theorem dX6_last_33 : decode cX6_last 33 = .ok (.getfield 69, 3) := by decide +kernel
theorem dX6_last_36 : decode cX6_last 36 = .ok (.ireturn, 1) := by decide +kernel
theorem dX6_priceTo_0 : decode cX6_priceTo 0 = .ok (.aload_n 0, 1) := by decide +kernel
theorem dX6_priceTo_1 : decode cX6_priceTo 1 = .ok (.getfield 7, 3) := by decide +kernel
theorem dX6_priceTo_4 : decode cX6_priceTo 4 = .ok (.bipush 8, 2) := by decide +kernel
theorem dX6_priceTo_6 : decode cX6_priceTo 6 = .ok (.iload_n 1, 1) := by decide +kernel
theorem dX6_priceTo_7 : decode cX6_priceTo 7 = .ok (.imul, 1) := by decide +kernel
theorem dX6_priceTo_8 : decode cX6_priceTo 8 = .ok (.iaload, 1) := by decide +kernel
theorem dX6_priceTo_9 : decode cX6_priceTo 9 = .ok (.i2l, 1) := by decide +kernel
theorem dX6_priceTo_10 : decode cX6_priceTo 10 = .ok (.aload_n 0, 1) := by decide +kernel
theorem dX6_priceTo_11 : decode cX6_priceTo 11 = .ok (.getfield 66, 3) := by decide +kernel
theorem dX6_priceTo_14 : decode cX6_priceTo 14 = .ok (.iload_n 3, 1) := by decide +kernel
theorem dX6_priceTo_15 : decode cX6_priceTo 15 = .ok (.iconst 1, 1) := by decide +kernel
theorem dX6_priceTo_16 : decode cX6_priceTo 16 = .ok (.iadd, 1) := by decide +kernel
theorem dX6_priceTo_17 : decode cX6_priceTo 17 = .ok (.laload, 1) := by decide +kernel
theorem dX6_priceTo_18 : decode cX6_priceTo 18 = .ok (.ladd, 1) := by decide +kernel
theorem dX6_priceTo_19 : decode cX6_priceTo 19 = .ok (.lstore 4, 2) := by decide +kernel
theorem dX6_priceTo_21 : decode cX6_priceTo 21 = .ok (.iload_n 2, 1) := by decide +kernel
theorem dX6_priceTo_22 : decode cX6_priceTo 22 = .ok (.istore 6, 2) := by decide +kernel
theorem dX6_priceTo_24 : decode cX6_priceTo 24 = .ok (.iload 6, 2) := by decide +kernel
theorem dX6_priceTo_26 : decode cX6_priceTo 26 = .ok (.iload_n 3, 1) := by decide +kernel
theorem dX6_priceTo_27 : decode cX6_priceTo 27 = .ok (.if_icmp .gt 41, 3) := by decide +kernel
theorem dX6_priceTo_30 : decode cX6_priceTo 30 = .ok (.lload 4, 2) := by decide +kernel
theorem dX6_priceTo_32 : decode cX6_priceTo 32 = .ok (.aload_n 0, 1) := by decide +kernel
theorem dX6_priceTo_33 : decode cX6_priceTo 33 = .ok (.getfield 63, 3) := by decide +kernel
theorem dX6_priceTo_36 : decode cX6_priceTo 36 = .ok (.iload 6, 2) := by decide +kernel
theorem dX6_priceTo_38 : decode cX6_priceTo 38 = .ok (.iaload, 1) := by decide +kernel
theorem dX6_priceTo_39 : decode cX6_priceTo 39 = .ok (.i2l, 1) := by decide +kernel
theorem dX6_priceTo_40 : decode cX6_priceTo 40 = .ok (.iload 6, 2) := by decide +kernel
theorem dX6_priceTo_42 : decode cX6_priceTo 42 = .ok (.iload_n 2, 1) := by decide +kernel
theorem dX6_priceTo_43 : decode cX6_priceTo 43 = .ok (.isub, 1) := by decide +kernel
theorem dX6_priceTo_44 : decode cX6_priceTo 44 = .ok (.i2l, 1) := by decide +kernel
theorem dX6_priceTo_45 : decode cX6_priceTo 45 = .ok (.lmul, 1) := by decide +kernel
theorem dX6_priceTo_46 : decode cX6_priceTo 46 = .ok (.aload_n 0, 1) := by decide +kernel
theorem dX6_priceTo_47 : decode cX6_priceTo 47 = .ok (.getfield 7, 3) := by decide +kernel
theorem dX6_priceTo_50 : decode cX6_priceTo 50 = .ok (.bipush 8, 2) := by decide +kernel
theorem dX6_priceTo_52 : decode cX6_priceTo 52 = .ok (.iload_n 1, 1) := by decide +kernel
theorem dX6_priceTo_53 : decode cX6_priceTo 53 = .ok (.imul, 1) := by decide +kernel
theorem dX6_priceTo_54 : decode cX6_priceTo 54 = .ok (.iconst 1, 1) := by decide +kernel
theorem dX6_priceTo_55 : decode cX6_priceTo 55 = .ok (.iadd, 1) := by decide +kernel
theorem dX6_priceTo_56 : decode cX6_priceTo 56 = .ok (.iaload, 1) := by decide +kernel
theorem dX6_priceTo_57 : decode cX6_priceTo 57 = .ok (.i2l, 1) := by decide +kernel
theorem dX6_priceTo_58 : decode cX6_priceTo 58 = .ok (.lmul, 1) := by decide +kernel
theorem dX6_priceTo_59 : decode cX6_priceTo 59 = .ok (.ladd, 1) := by decide +kernel
theorem dX6_priceTo_60 : decode cX6_priceTo 60 = .ok (.lstore 4, 2) := by decide +kernel
theorem dX6_priceTo_62 : decode cX6_priceTo 62 = .ok (.iinc 6 1, 3) := by decide +kernel
theorem dX6_priceTo_65 : decode cX6_priceTo 65 = .ok (.goto (-41), 3) := by decide +kernel
theorem dX6_priceTo_68 : decode cX6_priceTo 68 = .ok (.lload 4, 2) := by decide +kernel
theorem dX6_priceTo_70 : decode cX6_priceTo 70 = .ok (.lreturn, 1) := by decide +kernel
set_option maxRecDepth 20000 in
theorem ggX6_best_X6_isItem : GoodIn wsX6_best wsX6_isItem := goodIn_r _ [8, 9, 10, 11, 7, 12, 29, 30, 31, 32, 33, 34, 35, 36, 37, 38, 39, 40, 41, 42, 43, 44, 45, 46, 47, 48, 49, 50, 51, 52, 53] (by decide +kernel) (by decide +kernel)
set_option maxRecDepth 20000 in
theorem gX6_best_X6_isItem : GoodIn wsX6_best (wsV RX6 83 RX6 yX6_isItem wsX6_isItem) := goodIn_app (goodIn_of _ (by decide +kernel)) ggX6_best_X6_isItem
set_option maxRecDepth 20000 in
theorem ggX6_best_X6_alone : GoodIn wsX6_best wsX6_alone := goodIn_r _ [16, 17, 18, 19, 20, 3, 2, 21, 22, 23, 7, 24, 25, 26, 27, 28, 29, 30, 31, 32, 33, 34, 35, 36, 37, 38, 39, 40, 41, 42, 43, 44, 45, 46, 47, 48, 49, 50, 51, 52, 53] (by decide +kernel) (by decide +kernel)
set_option maxRecDepth 20000 in
theorem gX6_best_X6_alone : GoodIn wsX6_best (wsV RX6 146 RX6 yX6_alone wsX6_alone) := goodIn_app (goodIn_of _ (by decide +kernel)) ggX6_best_X6_alone
theorem dX6_best_0 : decode cX6_best 0 = .ok (.aload_n 0, 1) := by decide +kernel
theorem dX6_best_1 : decode cX6_best 1 = .ok (.iconst 0, 1) := by decide +kernel
theorem dX6_best_2 : decode cX6_best 2 = .ok (.putfield 73, 3) := by decide +kernel
theorem dX6_best_5 : decode cX6_best 5 = .ok (.aload_n 0, 1) := by decide +kernel
theorem dX6_best_6 : decode cX6_best 6 = .ok (.iload_n 1, 1) := by decide +kernel
theorem dX6_best_7 : decode cX6_best 7 = .ok (.invokevirtual 83, 3) := by decide +kernel
theorem dX6_best_10 : decode cX6_best 10 = .ok (.ifCond .ne 7, 3) := by decide +kernel
theorem dX6_best_13 : decode cX6_best 13 = .ok (.ldc2_w 108, 3) := by decide +kernel
theorem dX6_best_16 : decode cX6_best 16 = .ok (.lreturn, 1) := by decide +kernel
theorem dX6_best_17 : decode cX6_best 17 = .ok (.aload_n 0, 1) := by decide +kernel
theorem dX6_best_18 : decode cX6_best 18 = .ok (.iload_n 1, 1) := by decide +kernel
theorem dX6_best_19 : decode cX6_best 19 = .ok (.invokevirtual 146, 3) := by decide +kernel
theorem dX6_best_22 : decode cX6_best 22 = .ok (.aload_n 0, 1) := by decide +kernel
theorem dX6_best_23 : decode cX6_best 23 = .ok (.getfield 66, 3) := by decide +kernel
theorem dX6_best_26 : decode cX6_best 26 = .ok (.iconst 1, 1) := by decide +kernel
theorem dX6_best_27 : decode cX6_best 27 = .ok (.laload, 1) := by decide +kernel
theorem dX6_best_28 : decode cX6_best 28 = .ok (.lreturn, 1) := by decide +kernel
set_option maxRecDepth 20000 in
theorem ggX6_lot_X6_isItem : GoodIn wsX6_lot wsX6_isItem := goodIn_r _ [8, 9, 10, 11, 7, 12, 33, 34, 35, 36, 37, 38, 39, 40, 41, 42, 43, 44, 45, 46, 47, 48, 49, 50, 51, 52, 53, 54, 55, 56, 57] (by decide +kernel) (by decide +kernel)
set_option maxRecDepth 20000 in
theorem gX6_lot_X6_isItem : GoodIn wsX6_lot (wsV RX6 83 RX6 yX6_isItem wsX6_isItem) := goodIn_app (goodIn_of _ (by decide +kernel)) ggX6_lot_X6_isItem
set_option maxRecDepth 20000 in
theorem ggX6_lot_X6_isPeriod : GoodIn wsX6_lot wsX6_isPeriod := goodIn_r _ [16, 17, 10, 11, 7, 12, 33, 34, 35, 36, 37, 38, 39, 40, 41, 42, 43, 44, 45, 46, 47, 48, 49, 50, 51, 52, 53, 54, 55, 56, 57] (by decide +kernel) (by decide +kernel)
set_option maxRecDepth 20000 in
theorem gX6_lot_X6_isPeriod : GoodIn wsX6_lot (wsV RX6 91 RX6 yX6_isPeriod wsX6_isPeriod) := goodIn_app (goodIn_of _ (by decide +kernel)) ggX6_lot_X6_isPeriod
set_option maxRecDepth 20000 in
theorem ggX6_lot_X6_alone : GoodIn wsX6_lot wsX6_alone := goodIn_r _ [21, 22, 17, 23, 2, 3, 24, 25, 26, 27, 7, 28, 29, 30, 31, 32, 33, 34, 35, 36, 37, 38, 39, 40, 41, 42, 43, 44, 45, 46, 47, 48, 49, 50, 51, 52, 53, 54, 55, 56, 57] (by decide +kernel) (by decide +kernel)
set_option maxRecDepth 20000 in
theorem gX6_lot_X6_alone : GoodIn wsX6_lot (wsV RX6 146 RX6 yX6_alone wsX6_alone) := goodIn_app (goodIn_of _ (by decide +kernel)) ggX6_lot_X6_alone
set_option maxRecDepth 20000 in
theorem ggX6_lot_X6_last : GoodIn wsX6_lot wsX6_last := goodIn_r _ [28, 22, 17, 33, 34, 35, 36, 37, 38, 39, 40, 41, 42, 43, 44, 45, 46, 47, 48, 49, 50, 51, 52, 53, 54, 55, 56, 57] (by decide +kernel) (by decide +kernel)
set_option maxRecDepth 20000 in
theorem gX6_lot_X6_last : GoodIn wsX6_lot (wsV RX6 139 RX6 yX6_last wsX6_last) := goodIn_app (goodIn_of _ (by decide +kernel)) ggX6_lot_X6_last
set_option maxRecDepth 20000 in
theorem ggX6_lot_X6_priceTo : GoodIn wsX6_lot wsX6_priceTo := goodIn_r _ [32, 22, 3, 2, 33, 34, 35, 36, 37, 38, 39, 40, 41, 42, 43, 44, 45, 46, 47, 48, 49, 50, 51, 52, 53, 54, 55, 56, 57] (by decide +kernel) (by decide +kernel)
set_option maxRecDepth 20000 in
theorem gX6_lot_X6_priceTo : GoodIn wsX6_lot (wsV RX6 142 RX6 yX6_priceTo wsX6_priceTo) := goodIn_app (goodIn_of _ (by decide +kernel)) ggX6_lot_X6_priceTo
theorem dX6_lot_0 : decode cX6_lot 0 = .ok (.aload_n 0, 1) := by decide +kernel
theorem dX6_lot_1 : decode cX6_lot 1 = .ok (.iconst 0, 1) := by decide +kernel
theorem dX6_lot_2 : decode cX6_lot 2 = .ok (.putfield 73, 3) := by decide +kernel
theorem dX6_lot_5 : decode cX6_lot 5 = .ok (.aload_n 0, 1) := by decide +kernel
theorem dX6_lot_6 : decode cX6_lot 6 = .ok (.iload_n 1, 1) := by decide +kernel
theorem dX6_lot_7 : decode cX6_lot 7 = .ok (.invokevirtual 83, 3) := by decide +kernel
theorem dX6_lot_10 : decode cX6_lot 10 = .ok (.ifCond .eq 11, 3) := by decide +kernel
theorem dX6_lot_13 : decode cX6_lot 13 = .ok (.aload_n 0, 1) := by decide +kernel
theorem dX6_lot_14 : decode cX6_lot 14 = .ok (.iload_n 2, 1) := by decide +kernel
theorem dX6_lot_15 : decode cX6_lot 15 = .ok (.invokevirtual 91, 3) := by decide +kernel
theorem dX6_lot_18 : decode cX6_lot 18 = .ok (.ifCond .ne 5, 3) := by decide +kernel
theorem dX6_lot_21 : decode cX6_lot 21 = .ok (.iconst (-1), 1) := by decide +kernel
theorem dX6_lot_22 : decode cX6_lot 22 = .ok (.ireturn, 1) := by decide +kernel
theorem dX6_lot_23 : decode cX6_lot 23 = .ok (.aload_n 0, 1) := by decide +kernel
theorem dX6_lot_24 : decode cX6_lot 24 = .ok (.iload_n 1, 1) := by decide +kernel
theorem dX6_lot_25 : decode cX6_lot 25 = .ok (.invokevirtual 146, 3) := by decide +kernel
theorem dX6_lot_28 : decode cX6_lot 28 = .ok (.iconst 1, 1) := by decide +kernel
theorem dX6_lot_29 : decode cX6_lot 29 = .ok (.istore_n 3, 1) := by decide +kernel
theorem dX6_lot_30 : decode cX6_lot 30 = .ok (.iload_n 3, 1) := by decide +kernel
theorem dX6_lot_31 : decode cX6_lot 31 = .ok (.iload_n 2, 1) := by decide +kernel
theorem dX6_lot_32 : decode cX6_lot 32 = .ok (.if_icmp .gt 127, 3) := by decide +kernel
theorem dX6_lot_35 : decode cX6_lot 35 = .ok (.iload_n 3, 1) := by decide +kernel
theorem dX6_lot_36 : decode cX6_lot 36 = .ok (.istore 4, 2) := by decide +kernel
theorem dX6_lot_38 : decode cX6_lot 38 = .ok (.iconst 0, 1) := by decide +kernel
theorem dX6_lot_39 : decode cX6_lot 39 = .ok (.istore 5, 2) := by decide +kernel
theorem dX6_lot_41 : decode cX6_lot 41 = .ok (.aload_n 0, 1) := by decide +kernel
theorem dX6_lot_42 : decode cX6_lot 42 = .ok (.getfield 63, 3) := by decide +kernel
theorem dX6_lot_45 : decode cX6_lot 45 = .ok (.iload_n 3, 1) := by decide +kernel
theorem dX6_lot_46 : decode cX6_lot 46 = .ok (.iaload, 1) := by decide +kernel
theorem dX6_lot_47 : decode cX6_lot 47 = .ok (.ifCond .gt 21, 3) := by decide +kernel
theorem dX6_lot_50 : decode cX6_lot 50 = .ok (.aload_n 0, 1) := by decide +kernel
theorem dX6_lot_51 : decode cX6_lot 51 = .ok (.getfield 66, 3) := by decide +kernel
theorem dX6_lot_54 : decode cX6_lot 54 = .ok (.iload_n 3, 1) := by decide +kernel
theorem dX6_lot_55 : decode cX6_lot 55 = .ok (.iconst 1, 1) := by decide +kernel
theorem dX6_lot_56 : decode cX6_lot 56 = .ok (.iadd, 1) := by decide +kernel
theorem dX6_lot_57 : decode cX6_lot 57 = .ok (.laload, 1) := by decide +kernel
theorem dX6_lot_58 : decode cX6_lot 58 = .ok (.aload_n 0, 1) := by decide +kernel
theorem dX6_lot_59 : decode cX6_lot 59 = .ok (.getfield 66, 3) := by decide +kernel
theorem dX6_lot_62 : decode cX6_lot 62 = .ok (.iload_n 3, 1) := by decide +kernel
theorem dX6_lot_63 : decode cX6_lot 63 = .ok (.laload, 1) := by decide +kernel
theorem dX6_lot_64 : decode cX6_lot 64 = .ok (.lcmp, 1) := by decide +kernel
theorem dX6_lot_65 : decode cX6_lot 65 = .ok (.ifCond .le 78, 3) := by decide +kernel
theorem dX6_lot_68 : decode cX6_lot 68 = .ok (.iload_n 3, 1) := by decide +kernel
theorem dX6_lot_69 : decode cX6_lot 69 = .ok (.istore 6, 2) := by decide +kernel
theorem dX6_lot_71 : decode cX6_lot 71 = .ok (.iload 6, 2) := by decide +kernel
theorem dX6_lot_73 : decode cX6_lot 73 = .ok (.aload_n 0, 1) := by decide +kernel
theorem dX6_lot_74 : decode cX6_lot 74 = .ok (.iload_n 1, 1) := by decide +kernel
theorem dX6_lot_75 : decode cX6_lot 75 = .ok (.iload_n 3, 1) := by decide +kernel
theorem dX6_lot_76 : decode cX6_lot 76 = .ok (.invokevirtual 139, 3) := by decide +kernel
theorem dX6_lot_79 : decode cX6_lot 79 = .ok (.if_icmp .gt 36, 3) := by decide +kernel
theorem dX6_lot_82 : decode cX6_lot 82 = .ok (.aload_n 0, 1) := by decide +kernel
theorem dX6_lot_83 : decode cX6_lot 83 = .ok (.iload_n 1, 1) := by decide +kernel
theorem dX6_lot_84 : decode cX6_lot 84 = .ok (.iload_n 3, 1) := by decide +kernel
theorem dX6_lot_85 : decode cX6_lot 85 = .ok (.iload 6, 2) := by decide +kernel
theorem dX6_lot_87 : decode cX6_lot 87 = .ok (.invokevirtual 142, 3) := by decide +kernel
theorem dX6_lot_90 : decode cX6_lot 90 = .ok (.aload_n 0, 1) := by decide +kernel
theorem dX6_lot_91 : decode cX6_lot 91 = .ok (.getfield 66, 3) := by decide +kernel
theorem dX6_lot_94 : decode cX6_lot 94 = .ok (.iload_n 3, 1) := by decide +kernel
theorem dX6_lot_95 : decode cX6_lot 95 = .ok (.laload, 1) := by decide +kernel
theorem dX6_lot_96 : decode cX6_lot 96 = .ok (.lcmp, 1) := by decide +kernel
theorem dX6_lot_97 : decode cX6_lot 97 = .ok (.ifCond .ne 8, 3) := by decide +kernel
theorem dX6_lot_100 : decode cX6_lot 100 = .ok (.iload 6, 2) := by decide +kernel
theorem dX6_lot_102 : decode cX6_lot 102 = .ok (.goto 5, 3) := by decide +kernel
theorem dX6_lot_105 : decode cX6_lot 105 = .ok (.iload 4, 2) := by decide +kernel
theorem dX6_lot_107 : decode cX6_lot 107 = .ok (.istore 4, 2) := by decide +kernel
theorem dX6_lot_109 : decode cX6_lot 109 = .ok (.iinc 6 1, 3) := by decide +kernel
theorem dX6_lot_112 : decode cX6_lot 112 = .ok (.goto (-41), 3) := by decide +kernel
theorem dX6_lot_115 : decode cX6_lot 115 = .ok (.iload_n 3, 1) := by decide +kernel
theorem dX6_lot_116 : decode cX6_lot 116 = .ok (.istore 6, 2) := by decide +kernel
theorem dX6_lot_118 : decode cX6_lot 118 = .ok (.iload 6, 2) := by decide +kernel
theorem dX6_lot_120 : decode cX6_lot 120 = .ok (.iload 4, 2) := by decide +kernel
theorem dX6_lot_122 : decode cX6_lot 122 = .ok (.if_icmp .gt 21, 3) := by decide +kernel
theorem dX6_lot_125 : decode cX6_lot 125 = .ok (.iload 5, 2) := by decide +kernel
theorem dX6_lot_127 : decode cX6_lot 127 = .ok (.aload_n 0, 1) := by decide +kernel
theorem dX6_lot_128 : decode cX6_lot 128 = .ok (.getfield 63, 3) := by decide +kernel
theorem dX6_lot_131 : decode cX6_lot 131 = .ok (.iload 6, 2) := by decide +kernel
theorem dX6_lot_133 : decode cX6_lot 133 = .ok (.iaload, 1) := by decide +kernel
theorem dX6_lot_134 : decode cX6_lot 134 = .ok (.iadd, 1) := by decide +kernel
theorem dX6_lot_135 : decode cX6_lot 135 = .ok (.istore 5, 2) := by decide +kernel
theorem dX6_lot_137 : decode cX6_lot 137 = .ok (.iinc 6 1, 3) := by decide +kernel
theorem dX6_lot_140 : decode cX6_lot 140 = .ok (.goto (-22), 3) := by decide +kernel
theorem dX6_lot_143 : decode cX6_lot 143 = .ok (.iload_n 3, 1) := by decide +kernel
theorem dX6_lot_144 : decode cX6_lot 144 = .ok (.iload_n 2, 1) := by decide +kernel
theorem dX6_lot_145 : decode cX6_lot 145 = .ok (.if_icmp .ne 6, 3) := by decide +kernel
theorem dX6_lot_148 : decode cX6_lot 148 = .ok (.iload 5, 2) := by decide +kernel
theorem dX6_lot_150 : decode cX6_lot 150 = .ok (.ireturn, 1) := by decide +kernel
theorem dX6_lot_151 : decode cX6_lot 151 = .ok (.iload 4, 2) := by decide +kernel
theorem dX6_lot_153 : decode cX6_lot 153 = .ok (.iconst 1, 1) := by decide +kernel
theorem dX6_lot_154 : decode cX6_lot 154 = .ok (.iadd, 1) := by decide +kernel
theorem dX6_lot_155 : decode cX6_lot 155 = .ok (.istore_n 3, 1) := by decide +kernel
theorem dX6_lot_156 : decode cX6_lot 156 = .ok (.goto (-126), 3) := by decide +kernel
theorem dX6_lot_159 : decode cX6_lot 159 = .ok (.iconst 0, 1) := by decide +kernel
theorem dX6_lot_160 : decode cX6_lot 160 = .ok (.ireturn, 1) := by decide +kernel
set_option maxRecDepth 20000 in
theorem ggX6_from_X6_isItem : GoodIn wsX6_from wsX6_isItem := goodIn_r _ [9, 10, 11, 12, 8, 13, 29, 30, 31, 32, 33, 34, 35, 36, 37, 38, 39, 40, 41, 42, 43, 44, 45, 46, 47, 48, 49, 50, 51, 52, 53] (by decide +kernel) (by decide +kernel)
set_option maxRecDepth 20000 in
theorem gX6_from_X6_isItem : GoodIn wsX6_from (wsV RX6 83 RX6 yX6_isItem wsX6_isItem) := goodIn_app (goodIn_of _ (by decide +kernel)) ggX6_from_X6_isItem
set_option maxRecDepth 20000 in
theorem ggX6_from_X6_in : GoodIn wsX6_from wsX6_in := goodIn_r _ [13] (by decide +kernel) (by decide +kernel)
set_option maxRecDepth 20000 in
theorem gX6_from_X6_in : GoodIn wsX6_from (va_wsS RX6 79 yX6_in wsX6_in) := goodIn_app (goodIn_of _ (by decide +kernel)) ggX6_from_X6_in
set_option maxRecDepth 20000 in
theorem ggX6_from_X6_alone : GoodIn wsX6_from wsX6_alone := goodIn_r _ [17, 18, 2, 19, 20, 4, 3, 21, 22, 23, 8, 24, 25, 26, 27, 28, 29, 30, 31, 32, 33, 34, 35, 36, 37, 38, 39, 40, 41, 42, 43, 44, 45, 46, 47, 48, 49, 50, 51, 52, 53] (by decide +kernel) (by decide +kernel)
set_option maxRecDepth 20000 in
theorem gX6_from_X6_alone : GoodIn wsX6_from (wsV RX6 146 RX6 yX6_alone wsX6_alone) := goodIn_app (goodIn_of _ (by decide +kernel)) ggX6_from_X6_alone
theorem dX6_from_0 : decode cX6_from 0 = .ok (.aload_n 0, 1) := by decide +kernel
theorem dX6_from_1 : decode cX6_from 1 = .ok (.iconst 0, 1) := by decide +kernel
theorem dX6_from_2 : decode cX6_from 2 = .ok (.putfield 73, 3) := by decide +kernel
theorem dX6_from_5 : decode cX6_from 5 = .ok (.aload_n 0, 1) := by decide +kernel
theorem dX6_from_6 : decode cX6_from 6 = .ok (.iload_n 1, 1) := by decide +kernel
theorem dX6_from_7 : decode cX6_from 7 = .ok (.invokevirtual 83, 3) := by decide +kernel
theorem dX6_from_10 : decode cX6_from 10 = .ok (.ifCond .eq 17, 3) := by decide +kernel
theorem dX6_from_13 : decode cX6_from 13 = .ok (.iload_n 2, 1) := by decide +kernel
theorem dX6_from_14 : decode cX6_from 14 = .ok (.iconst 1, 1) := by decide +kernel
theorem dX6_from_15 : decode cX6_from 15 = .ok (.aload_n 0, 1) := by decide +kernel
theorem dX6_from_16 : decode cX6_from 16 = .ok (.getfield 69, 3) := by decide +kernel
theorem dX6_from_19 : decode cX6_from 19 = .ok (.iconst 1, 1) := by decide +kernel
theorem dX6_from_20 : decode cX6_from 20 = .ok (.iadd, 1) := by decide +kernel
theorem dX6_from_21 : decode cX6_from 21 = .ok (.invokestatic 79, 3) := by decide +kernel
theorem dX6_from_24 : decode cX6_from 24 = .ok (.ifCond .ne 7, 3) := by decide +kernel
theorem dX6_from_27 : decode cX6_from 27 = .ok (.ldc2_w 108, 3) := by decide +kernel
theorem dX6_from_30 : decode cX6_from 30 = .ok (.lreturn, 1) := by decide +kernel
theorem dX6_from_31 : decode cX6_from 31 = .ok (.aload_n 0, 1) := by decide +kernel
theorem dX6_from_32 : decode cX6_from 32 = .ok (.iload_n 1, 1) := by decide +kernel
theorem dX6_from_33 : decode cX6_from 33 = .ok (.invokevirtual 146, 3) := by decide +kernel
theorem dX6_from_36 : decode cX6_from 36 = .ok (.aload_n 0, 1) := by decide +kernel
theorem dX6_from_37 : decode cX6_from 37 = .ok (.getfield 66, 3) := by decide +kernel
theorem dX6_from_40 : decode cX6_from 40 = .ok (.iload_n 2, 1) := by decide +kernel
theorem dX6_from_41 : decode cX6_from 41 = .ok (.laload, 1) := by decide +kernel
theorem dX6_from_42 : decode cX6_from 42 = .ok (.lreturn, 1) := by decide +kernel
theorem dJ9_max_7cf53_0 : decode cJ9_max_7cf53 0 = .ok (.iload_n 0, 1) := by decide +kernel
theorem dJ9_max_7cf53_1 : decode cJ9_max_7cf53 1 = .ok (.iload_n 1, 1) := by decide +kernel
theorem dJ9_max_7cf53_2 : decode cJ9_max_7cf53 2 = .ok (.if_icmp .lt 7, 3) := by decide +kernel
theorem dJ9_max_7cf53_5 : decode cJ9_max_7cf53 5 = .ok (.iload_n 0, 1) := by decide +kernel
theorem dJ9_max_7cf53_6 : decode cJ9_max_7cf53 6 = .ok (.goto 4, 3) := by decide +kernel
theorem dJ9_max_7cf53_9 : decode cJ9_max_7cf53 9 = .ok (.iload_n 1, 1) := by decide +kernel
theorem dJ9_max_7cf53_10 : decode cJ9_max_7cf53 10 = .ok (.ireturn, 1) := by decide +kernel
theorem dJ9_max_f86c9_0 : decode cJ9_max_f86c9 0 = .ok (.lload_n 0, 1) := by decide +kernel
theorem dJ9_max_f86c9_1 : decode cJ9_max_f86c9 1 = .ok (.lload_n 2, 1) := by decide +kernel
theorem dJ9_max_f86c9_2 : decode cJ9_max_f86c9 2 = .ok (.lcmp, 1) := by decide +kernel
theorem dJ9_max_f86c9_3 : decode cJ9_max_f86c9 3 = .ok (.ifCond .lt 7, 3) := by decide +kernel
theorem dJ9_max_f86c9_6 : decode cJ9_max_f86c9 6 = .ok (.lload_n 0, 1) := by decide +kernel
theorem dJ9_max_f86c9_7 : decode cJ9_max_f86c9 7 = .ok (.goto 4, 3) := by decide +kernel
theorem dJ9_max_f86c9_10 : decode cJ9_max_f86c9 10 = .ok (.lload_n 2, 1) := by decide +kernel
theorem dJ9_max_f86c9_11 : decode cJ9_max_f86c9 11 = .ok (.lreturn, 1) := by decide +kernel
theorem dJ9_min_7cf53_0 : decode cJ9_min_7cf53 0 = .ok (.iload_n 0, 1) := by decide +kernel
theorem dJ9_min_7cf53_1 : decode cJ9_min_7cf53 1 = .ok (.iload_n 1, 1) := by decide +kernel
theorem dJ9_min_7cf53_2 : decode cJ9_min_7cf53 2 = .ok (.if_icmp .gt 7, 3) := by decide +kernel
theorem dJ9_min_7cf53_5 : decode cJ9_min_7cf53 5 = .ok (.iload_n 0, 1) := by decide +kernel
theorem dJ9_min_7cf53_6 : decode cJ9_min_7cf53 6 = .ok (.goto 4, 3) := by decide +kernel
theorem dJ9_min_7cf53_9 : decode cJ9_min_7cf53 9 = .ok (.iload_n 1, 1) := by decide +kernel
theorem dJ9_min_7cf53_10 : decode cJ9_min_7cf53 10 = .ok (.ireturn, 1) := by decide +kernel
