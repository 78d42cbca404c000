set_option maxRecDepth 20000 in
theorem ggL_law_X6_from : GoodIn wsL_law wsX6_from := goodIn_r _ [489, 119, 110, 274, 109, 138, 139, 140, 5, 141, 120, 142, 143, 144, 461, 462, 463, 464, 90, 91, 108, 465, 466, 467, 468, 469, 470, 471, 472, 518, 519, 520, 521, 522, 523, 524, 525, 526, 527, 528, 529, 530, 531, 532, 533, 534, 535, 536, 537, 538, 539, 540, 541, 542] (by decide +kernel) (by decide +kernel)
set_option maxRecDepth 20000 in
theorem gL_law_X6_from : GoodIn wsL_law (wsV RL 107 RX6 yX6_from wsX6_from) := goodIn_app (goodIn_of _ (by decide +kernel)) ggL_law_X6_from
set_option maxRecDepth 20000 in
theorem ggL_law_L_share : GoodIn wsL_law wsL_share := goodIn_ca (goodIn_r _ [492, 493, 494, 495, 496, 2, 497, 498, 499, 233, 500, 338, 339, 340, 341, 342, 343, 344, 345, 346, 347, 348, 37, 26, 29, 24, 125, 292, 293, 294, 36, 295, 70, 69, 296, 297, 298, 299, 300, 349, 350, 351, 352, 234, 235, 21, 22, 19, 23, 240, 241, 242, 243, 244, 245, 246, 56, 247, 62, 64, 248, 249, 250, 28, 251, 50, 52, 217, 218, 219, 220, 152, 169, 190, 252, 253, 254, 255, 63, 256, 257, 258, 259, 260, 261, 262, 263, 264, 265, 18, 20, 266, 267, 268, 269, 353, 354, 355, 356, 33, 357, 358, 359, 360, 31, 361, 362, 363, 322, 323, 324, 325, 510, 511, 512, 513, 514, 515, 516, 517, 543, 544, 545, 546, 547, 548, 549, 557, 558, 559] (by decide +kernel) (by decide +kernel)) (goodIn_sub (fun _ h => List.mem_append_right _ h) (by decide +kernel))
set_option maxRecDepth 20000 in
theorem gL_law_L_share : GoodIn wsL_law (va_wsS RL 108 yL_share wsL_share) := goodIn_app (goodIn_of _ (by decide +kernel)) ggL_law_L_share
set_option maxRecDepth 20000 in
theorem ggL_law_X6_share : GoodIn wsL_law wsX6_share := goodIn_r _ [504, 119, 274, 505, 142, 143, 5, 144, 368, 369, 370, 371, 110, 211, 120, 102, 90, 100, 98, 372, 373, 374, 375, 94, 330, 331, 332, 333, 92, 305, 306, 307, 308, 101, 275, 276, 277, 278, 97, 99, 225, 226, 227, 228, 91, 93, 518, 519, 520, 521, 522, 523, 524, 525, 526, 527, 528, 529, 530, 531, 532, 533, 534, 535, 536, 537, 538, 539, 540, 541, 542] (by decide +kernel) (by decide +kernel)
set_option maxRecDepth 20000 in
theorem gL_law_X6_share : GoodIn wsL_law (wsV RL 111 RX6 yX6_share wsX6_share) := goodIn_app (goodIn_of _ (by decide +kernel)) ggL_law_X6_share
set_option maxRecDepth 20000 in
theorem ggL_law_X6_thrown : GoodIn wsL_law wsX6_thrown := goodIn_r _ [509, 119, 518, 519, 520, 521, 522, 523, 524, 525, 526, 527, 528, 529, 530, 531, 532, 533, 534, 535, 536, 537, 538, 539, 540, 541, 542] (by decide +kernel) (by decide +kernel)
set_option maxRecDepth 20000 in
theorem gL_law_X6_thrown : GoodIn wsL_law (wsV RL 112 RX6 yX6_thrown wsX6_thrown) := goodIn_app (goodIn_of _ (by decide +kernel)) ggL_law_X6_thrown
