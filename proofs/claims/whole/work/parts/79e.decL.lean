set_option maxRecDepth 20000 in
theorem ggL_law_X6_isSetUp : GoodIn wsL_law wsX6_isSetUp := goodIn_r _ [304, 119, 102, 138, 139, 140, 5, 141, 120, 142, 143, 144, 161, 162, 163, 164, 110, 305, 306, 307, 308, 101, 92, 518, 519, 520, 521, 522, 523, 524, 525, 526, 527, 528, 529, 530, 531, 532, 533, 534, 535, 536, 537, 538, 539, 540, 541, 542] (by decide +kernel) (by decide +kernel)
set_option maxRecDepth 20000 in
theorem gL_law_X6_isSetUp : GoodIn wsL_law (wsV RL 73 RX6 yX6_isSetUp wsX6_isSetUp) := goodIn_app (goodIn_of _ (by decide +kernel)) ggL_law_X6_isSetUp
set_option maxRecDepth 20000 in
theorem ggL_law_X5_stands : GoodIn wsL_law wsX5_stands := goodIn_r _ [312, 37, 26, 29, 313, 236, 237, 238, 2, 239, 153, 154, 155, 156, 24, 292, 293, 294, 36, 295, 70, 69, 296, 510, 511, 512, 513, 514, 515, 516, 517, 548, 549, 543, 544, 545, 546, 547] (by decide +kernel) (by decide +kernel)
set_option maxRecDepth 20000 in
theorem gL_law_X5_stands : GoodIn wsL_law (wsV RL 74 RX5 yX5_stands wsX5_stands) := goodIn_app (goodIn_of _ (by decide +kernel)) ggL_law_X5_stands
set_option maxRecDepth 20000 in
theorem ggL_law_X6_stands : GoodIn wsL_law wsX6_stands := goodIn_r _ [317, 119, 110, 101, 142, 143, 5, 144, 305, 306, 307, 308, 120, 92, 102, 518, 519, 520, 521, 522, 523, 524, 525, 526, 527, 528, 529, 530, 531, 532, 533, 534, 535, 536, 537, 538, 539, 540, 541, 542] (by decide +kernel) (by decide +kernel)
set_option maxRecDepth 20000 in
theorem gL_law_X6_stands : GoodIn wsL_law (wsV RL 78 RX6 yX6_stands wsX6_stands) := goodIn_app (goodIn_of _ (by decide +kernel)) ggL_law_X6_stands
set_option maxRecDepth 20000 in
theorem ggL_law_X5_time : GoodIn wsL_law wsX5_time := goodIn_r _ [321, 233, 37, 26, 29, 153, 154, 155, 2, 156, 24, 292, 293, 294, 36, 295, 70, 69, 296, 322, 323, 324, 325, 190, 125, 297, 298, 299, 300, 510, 511, 512, 513, 514, 515, 516, 517, 548, 549, 543, 544, 545, 546, 547] (by decide +kernel) (by decide +kernel)
set_option maxRecDepth 20000 in
theorem gL_law_X5_time : GoodIn wsL_law (wsV RL 79 RX5 yX5_time wsX5_time) := goodIn_app (goodIn_of _ (by decide +kernel)) ggL_law_X5_time
set_option maxRecDepth 20000 in
theorem ggL_law_X6_time : GoodIn wsL_law wsX6_time := goodIn_r _ [329, 119, 274, 161, 162, 163, 5, 164, 110, 142, 143, 144, 330, 331, 332, 333, 120, 92, 90, 102, 305, 306, 307, 308, 101, 518, 519, 520, 521, 522, 523, 524, 525, 526, 527, 528, 529, 530, 531, 532, 533, 534, 535, 536, 537, 538, 539, 540, 541, 542] (by decide +kernel) (by decide +kernel)
set_option maxRecDepth 20000 in
theorem gL_law_X6_time : GoodIn wsL_law (wsV RL 83 RX6 yX6_time wsX6_time) := goodIn_app (goodIn_of _ (by decide +kernel)) ggL_law_X6_time
set_option maxRecDepth 20000 in
theorem ggL_law_X5_price : GoodIn wsL_law wsX5_price := goodIn_r _ [337, 233, 338, 339, 2, 340, 341, 342, 343, 344, 345, 346, 347, 348, 37, 26, 29, 24, 125, 292, 293, 294, 36, 295, 70, 69, 296, 297, 298, 299, 300, 349, 350, 351, 352, 234, 235, 21, 22, 19, 23, 240, 241, 242, 243, 244, 245, 246, 56, 247, 62, 64, 248, 249, 250, 28, 251, 50, 52, 217, 218, 219, 220, 152, 169, 190, 252, 253, 254, 255, 63, 256, 257, 258, 259, 260, 261, 262, 263, 264, 265, 18, 20, 266, 267, 268, 269, 353, 354, 355, 356, 33, 357, 358, 359, 360, 31, 361, 362, 363, 322, 323, 324, 325, 510, 511, 512, 513, 514, 515, 516, 517, 543, 544, 545, 546, 547, 548, 549, 557, 558, 559] (by decide +kernel) (by decide +kernel)
set_option maxRecDepth 20000 in
theorem gL_law_X5_price : GoodIn wsL_law (wsV RL 84 RX5 yX5_price wsX5_price) := goodIn_app (goodIn_of _ (by decide +kernel)) ggL_law_X5_price
set_option maxRecDepth 20000 in
theorem ggL_law_X6_price : GoodIn wsL_law wsX6_price := goodIn_r _ [367, 119, 274, 142, 143, 5, 144, 368, 369, 370, 371, 110, 211, 120, 102, 90, 100, 98, 372, 373, 374, 375, 94, 330, 331, 332, 333, 92, 305, 306, 307, 308, 101, 275, 276, 277, 278, 97, 99, 225, 226, 227, 228, 91, 93, 518, 519, 520, 521, 522, 523, 524, 525, 526, 527, 528, 529, 530, 531, 532, 533, 534, 535, 536, 537, 538, 539, 540, 541, 542] (by decide +kernel) (by decide +kernel)
set_option maxRecDepth 20000 in
theorem gL_law_X6_price : GoodIn wsL_law (wsV RL 87 RX6 yX6_price wsX6_price) := goodIn_app (goodIn_of _ (by decide +kernel)) ggL_law_X6_price
set_option maxRecDepth 20000 in
theorem ggL_law_X5_faults : GoodIn wsL_law wsX5_faults := goodIn_r _ [379, 41, 380, 381, 382, 383, 2, 384, 29, 37, 26, 24, 240, 241, 242, 243, 234, 125, 244, 245, 246, 56, 247, 62, 64, 248, 249, 250, 28, 251, 50, 52, 217, 218, 219, 220, 152, 169, 190, 252, 253, 254, 255, 63, 256, 257, 258, 259, 260, 22, 19, 23, 261, 262, 263, 264, 265, 18, 20, 266, 267, 268, 269, 292, 293, 294, 36, 295, 70, 69, 296, 385, 386, 387, 388, 389, 390, 391, 392, 40, 393, 75, 76, 394, 395, 396, 397, 398, 399, 400, 401, 33, 357, 358, 359, 360, 31, 361, 362, 363, 322, 323, 324, 325, 297, 298, 299, 300, 510, 511, 512, 513, 514, 515, 516, 517, 550, 551, 543, 544, 545, 546, 547, 557, 558, 559, 548, 549] (by decide +kernel) (by decide +kernel)
set_option maxRecDepth 20000 in
theorem gL_law_X5_faults : GoodIn wsL_law (wsV RL 88 RX5 yX5_faults wsX5_faults) := goodIn_app (goodIn_of _ (by decide +kernel)) ggL_law_X5_faults
