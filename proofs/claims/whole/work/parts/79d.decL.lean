set_option maxRecDepth 20000 in
theorem ggL_law_X6_over : GoodIn wsL_law wsX6_over := goodIn_r _ [210, 119, 211, 212, 142, 143, 5, 144, 518, 519, 520, 521, 522, 523, 524, 525, 526, 527, 528, 529, 530, 531, 532, 533, 534, 535, 536, 537, 538, 539, 540, 541, 542] (by decide +kernel) (by decide +kernel)
set_option maxRecDepth 20000 in
theorem gL_law_X6_over : GoodIn wsL_law (wsV RL 57 RX6 yX6_over wsX6_over) := goodIn_app (goodIn_of _ (by decide +kernel)) ggL_law_X6_over
set_option maxRecDepth 20000 in
theorem ggL_law_X5_gross : GoodIn wsL_law wsX5_gross := goodIn_r _ [216, 127, 128, 129, 2, 130, 29, 153, 154, 155, 156, 24, 217, 218, 219, 220, 26, 152, 169, 190, 510, 511, 512, 513, 514, 515, 516, 517, 543, 544, 545, 546, 547] (by decide +kernel) (by decide +kernel)
set_option maxRecDepth 20000 in
theorem gL_law_X5_gross : GoodIn wsL_law (wsV RL 58 RX5 yX5_gross wsX5_gross) := goodIn_app (goodIn_of _ (by decide +kernel)) ggL_law_X5_gross
set_option maxRecDepth 20000 in
theorem ggL_law_X6_gross : GoodIn wsL_law wsX6_gross := goodIn_r _ [224, 119, 138, 139, 140, 5, 141, 120, 142, 143, 144, 161, 162, 163, 164, 110, 225, 226, 227, 228, 91, 93, 92, 518, 519, 520, 521, 522, 523, 524, 525, 526, 527, 528, 529, 530, 531, 532, 533, 534, 535, 536, 537, 538, 539, 540, 541, 542] (by decide +kernel) (by decide +kernel)
set_option maxRecDepth 20000 in
theorem gL_law_X6_gross : GoodIn wsL_law (wsV RL 61 RX6 yX6_gross wsX6_gross) := goodIn_app (goodIn_of _ (by decide +kernel)) ggL_law_X6_gross
set_option maxRecDepth 20000 in
theorem ggL_law_X5_stock : GoodIn wsL_law wsX5_stock := goodIn_r _ [232, 233, 26, 234, 235, 127, 128, 129, 2, 130, 29, 236, 237, 238, 239, 153, 154, 155, 156, 24, 240, 241, 242, 243, 125, 244, 245, 246, 56, 247, 62, 64, 248, 249, 250, 28, 251, 50, 52, 217, 218, 219, 220, 152, 169, 190, 252, 253, 254, 255, 63, 256, 257, 258, 259, 260, 22, 19, 23, 261, 262, 263, 264, 265, 18, 20, 266, 267, 268, 269, 510, 511, 512, 513, 514, 515, 516, 517, 543, 544, 545, 546, 547, 557, 558, 559] (by decide +kernel) (by decide +kernel)
set_option maxRecDepth 20000 in
theorem gL_law_X5_stock : GoodIn wsL_law (wsV RL 62 RX5 yX5_stock wsX5_stock) := goodIn_app (goodIn_of _ (by decide +kernel)) ggL_law_X5_stock
set_option maxRecDepth 20000 in
theorem ggL_law_X6_stock : GoodIn wsL_law wsX6_stock := goodIn_r _ [273, 119, 110, 274, 100, 98, 138, 139, 140, 5, 141, 120, 142, 143, 144, 275, 276, 277, 278, 90, 97, 99, 92, 225, 226, 227, 228, 91, 93, 518, 519, 520, 521, 522, 523, 524, 525, 526, 527, 528, 529, 530, 531, 532, 533, 534, 535, 536, 537, 538, 539, 540, 541, 542] (by decide +kernel) (by decide +kernel)
set_option maxRecDepth 20000 in
theorem gL_law_X6_stock : GoodIn wsL_law (wsV RL 65 RX6 yX6_stock wsX6_stock) := goodIn_app (goodIn_of _ (by decide +kernel)) ggL_law_X6_stock
set_option maxRecDepth 20000 in
theorem ggL_law_X5_spoilt : GoodIn wsL_law wsX5_spoilt := goodIn_r _ [282, 26, 234, 283, 127, 128, 129, 2, 130, 29, 153, 154, 155, 156, 24, 240, 241, 242, 243, 125, 244, 245, 246, 56, 247, 62, 64, 248, 249, 250, 28, 251, 50, 52, 217, 218, 219, 220, 152, 169, 190, 252, 253, 254, 255, 63, 256, 257, 258, 259, 260, 22, 19, 23, 261, 262, 263, 264, 265, 18, 20, 266, 267, 268, 269, 510, 511, 512, 513, 514, 515, 516, 517, 543, 544, 545, 546, 547, 557, 558, 559] (by decide +kernel) (by decide +kernel)
set_option maxRecDepth 20000 in
theorem gL_law_X5_spoilt : GoodIn wsL_law (wsV RL 66 RX5 yX5_spoilt wsX5_spoilt) := goodIn_app (goodIn_of _ (by decide +kernel)) ggL_law_X5_spoilt
set_option maxRecDepth 20000 in
theorem ggL_law_X6_spoilt : GoodIn wsL_law wsX6_spoilt := goodIn_r _ [287, 119, 99, 138, 139, 140, 5, 141, 120, 142, 143, 144, 161, 162, 163, 164, 110, 275, 276, 277, 278, 90, 97, 98, 100, 92, 225, 226, 227, 228, 91, 93, 518, 519, 520, 521, 522, 523, 524, 525, 526, 527, 528, 529, 530, 531, 532, 533, 534, 535, 536, 537, 538, 539, 540, 541, 542] (by decide +kernel) (by decide +kernel)
set_option maxRecDepth 20000 in
theorem gL_law_X6_spoilt : GoodIn wsL_law (wsV RL 69 RX6 yX6_spoilt wsX6_spoilt) := goodIn_app (goodIn_of _ (by decide +kernel)) ggL_law_X6_spoilt
set_option maxRecDepth 20000 in
theorem ggL_law_X5_isSetUp : GoodIn wsL_law wsX5_isSetUp := goodIn_r _ [291, 37, 26, 29, 127, 128, 129, 2, 130, 153, 154, 155, 156, 24, 292, 293, 294, 36, 295, 70, 69, 296, 297, 298, 299, 300, 510, 511, 512, 513, 514, 515, 516, 517, 548, 549, 543, 544, 545, 546, 547] (by decide +kernel) (by decide +kernel)
set_option maxRecDepth 20000 in
theorem gL_law_X5_isSetUp : GoodIn wsL_law (wsV RL 70 RX5 yX5_isSetUp wsX5_isSetUp) := goodIn_app (goodIn_of _ (by decide +kernel)) ggL_law_X5_isSetUp
