set_option maxRecDepth 20000 in
theorem ggL_law_X6_need : GoodIn wsL_law wsX6_need := goodIn_r _ [160, 119, 91, 138, 139, 140, 5, 141, 120, 142, 143, 144, 161, 162, 163, 164, 110, 518, 519, 520, 521, 522, 523, 524, 525, 526, 527, 528, 529, 530, 531, 532, 533, 534, 535, 536, 537, 538, 539, 540, 541, 542] (by decide +kernel) (by decide +kernel)
set_option maxRecDepth 20000 in
theorem gL_law_X6_need : GoodIn wsL_law (wsV RL 40 RX6 yX6_need wsX6_need) := goodIn_app (goodIn_of _ (by decide +kernel)) ggL_law_X6_need
set_option maxRecDepth 20000 in
theorem ggL_law_X5_part : GoodIn wsL_law wsX5_part := goodIn_r _ [168, 26, 169, 127, 128, 129, 2, 130, 29, 170, 171, 172, 173, 174, 175, 176, 28, 177, 53, 131, 132, 133, 510, 511, 512, 513, 514, 515, 516, 517, 543, 544, 545, 546, 547] (by decide +kernel) (by decide +kernel)
set_option maxRecDepth 20000 in
theorem gL_law_X5_part : GoodIn wsL_law (wsV RL 41 RX5 yX5_part wsX5_part) := goodIn_app (goodIn_of _ (by decide +kernel)) ggL_law_X5_part
set_option maxRecDepth 20000 in
theorem ggL_law_X6_part : GoodIn wsL_law wsX6_part := goodIn_r _ [181, 119, 93, 138, 139, 140, 5, 141, 120, 142, 143, 144, 182, 183, 184, 185, 96, 518, 519, 520, 521, 522, 523, 524, 525, 526, 527, 528, 529, 530, 531, 532, 533, 534, 535, 536, 537, 538, 539, 540, 541, 542] (by decide +kernel) (by decide +kernel)
set_option maxRecDepth 20000 in
theorem gL_law_X6_part : GoodIn wsL_law (wsV RL 44 RX6 yX6_part wsX6_part) := goodIn_app (goodIn_of _ (by decide +kernel)) ggL_law_X6_part
set_option maxRecDepth 20000 in
theorem ggL_law_X5_make : GoodIn wsL_law wsX5_make := goodIn_r _ [189, 26, 190, 127, 128, 129, 2, 130, 29, 153, 154, 155, 156, 24, 131, 132, 133, 510, 511, 512, 513, 514, 515, 516, 517, 543, 544, 545, 546, 547] (by decide +kernel) (by decide +kernel)
set_option maxRecDepth 20000 in
theorem gL_law_X5_make : GoodIn wsL_law (wsV RL 45 RX5 yX5_make wsX5_make) := goodIn_app (goodIn_of _ (by decide +kernel)) ggL_law_X5_make
set_option maxRecDepth 20000 in
theorem ggL_law_X6_make : GoodIn wsL_law wsX6_make := goodIn_r _ [194, 119, 92, 138, 139, 140, 5, 141, 120, 142, 143, 144, 161, 162, 163, 164, 110, 518, 519, 520, 521, 522, 523, 524, 525, 526, 527, 528, 529, 530, 531, 532, 533, 534, 535, 536, 537, 538, 539, 540, 541, 542] (by decide +kernel) (by decide +kernel)
set_option maxRecDepth 20000 in
theorem gL_law_X6_make : GoodIn wsL_law (wsV RL 48 RX6 yX6_make wsX6_make) := goodIn_app (goodIn_of _ (by decide +kernel)) ggL_law_X6_make
set_option maxRecDepth 20000 in
theorem ggL_law_X5_capacity : GoodIn wsL_law wsX5_capacity := goodIn_r _ [198, 31, 153, 154, 155, 2, 156, 24, 131, 132, 133, 510, 511, 512, 513, 514, 515, 516, 517] (by decide +kernel) (by decide +kernel)
set_option maxRecDepth 20000 in
theorem gL_law_X5_capacity : GoodIn wsL_law (wsV RL 49 RX5 yX5_capacity wsX5_capacity) := goodIn_app (goodIn_of _ (by decide +kernel)) ggL_law_X5_capacity
set_option maxRecDepth 20000 in
theorem ggL_law_X6_capacity : GoodIn wsL_law wsX6_capacity := goodIn_r _ [202, 119, 94, 161, 162, 163, 5, 164, 110, 142, 143, 144, 518, 519, 520, 521, 522, 523, 524, 525, 526, 527, 528, 529, 530, 531, 532, 533, 534, 535, 536, 537, 538, 539, 540, 541, 542] (by decide +kernel) (by decide +kernel)
set_option maxRecDepth 20000 in
theorem gL_law_X6_capacity : GoodIn wsL_law (wsV RL 53 RX6 yX6_capacity wsX6_capacity) := goodIn_app (goodIn_of _ (by decide +kernel)) ggL_law_X6_capacity
set_option maxRecDepth 20000 in
theorem ggL_law_X5_over : GoodIn wsL_law wsX5_over := goodIn_r _ [206, 33, 32, 131, 132, 2, 133, 510, 511, 512, 513, 514, 515, 516, 517] (by decide +kernel) (by decide +kernel)
set_option maxRecDepth 20000 in
theorem gL_law_X5_over : GoodIn wsL_law (wsV RL 54 RX5 yX5_over wsX5_over) := goodIn_app (goodIn_of _ (by decide +kernel)) ggL_law_X5_over
