set_option maxRecDepth 20000 in
theorem ggL_law_X6_faults : GoodIn wsL_law wsX6_faults := goodIn_r _ [405, 119, 406, 407, 408, 409, 5, 410, 120, 110, 107, 98, 92, 90, 212, 275, 276, 277, 278, 97, 99, 100, 225, 226, 227, 228, 91, 93, 411, 412, 413, 414, 103, 104, 105, 106, 372, 373, 374, 375, 94, 330, 331, 332, 333, 102, 305, 306, 307, 308, 101, 518, 519, 520, 521, 522, 523, 524, 525, 526, 527, 528, 529, 530, 531, 532, 533, 534, 535, 536, 537, 538, 539, 540, 541, 542] (by decide +kernel) (by decide +kernel)
set_option maxRecDepth 20000 in
theorem gL_law_X6_faults : GoodIn wsL_law (wsV RL 91 RX6 yX6_faults wsX6_faults) := goodIn_app (goodIn_of _ (by decide +kernel)) ggL_law_X6_faults
set_option maxRecDepth 20000 in
theorem ggL_law_X5_fault : GoodIn wsL_law wsX5_fault := goodIn_r _ [418, 41, 380, 381, 382, 383, 2, 384, 29, 37, 26, 24, 240, 241, 242, 243, 234, 125, 244, 245, 246, 56, 247, 62, 64, 248, 249, 250, 28, 251, 50, 52, 217, 218, 219, 220, 152, 169, 190, 252, 253, 254, 255, 63, 256, 257, 258, 259, 260, 22, 19, 23, 261, 262, 263, 264, 265, 18, 20, 266, 267, 268, 269, 292, 293, 294, 36, 295, 70, 69, 296, 385, 386, 387, 388, 389, 390, 391, 392, 40, 393, 75, 76, 394, 395, 396, 397, 398, 399, 400, 401, 33, 357, 358, 359, 360, 31, 361, 362, 363, 322, 323, 324, 325, 297, 298, 299, 300, 419, 420, 421, 422, 510, 511, 512, 513, 514, 515, 516, 517, 550, 551, 543, 544, 545, 546, 547, 557, 558, 559, 548, 549] (by decide +kernel) (by decide +kernel)
set_option maxRecDepth 20000 in
theorem gL_law_X5_fault : GoodIn wsL_law (wsV RL 92 RX5 yX5_fault wsX5_fault) := goodIn_app (goodIn_of _ (by decide +kernel)) ggL_law_X5_fault
set_option maxRecDepth 20000 in
theorem ggL_law_X6_fault : GoodIn wsL_law wsX6_fault := goodIn_r _ [426, 119, 406, 103, 104, 105, 106, 407, 408, 409, 5, 410, 120, 110, 107, 98, 92, 90, 212, 275, 276, 277, 278, 97, 99, 100, 225, 226, 227, 228, 91, 93, 411, 412, 413, 414, 372, 373, 374, 375, 94, 330, 331, 332, 333, 102, 305, 306, 307, 308, 101, 142, 143, 144, 518, 519, 520, 521, 522, 523, 524, 525, 526, 527, 528, 529, 530, 531, 532, 533, 534, 535, 536, 537, 538, 539, 540, 541, 542] (by decide +kernel) (by decide +kernel)
set_option maxRecDepth 20000 in
theorem gL_law_X6_fault : GoodIn wsL_law (wsV RL 95 RX6 yX6_fault wsX6_fault) := goodIn_app (goodIn_of _ (by decide +kernel)) ggL_law_X6_fault
set_option maxRecDepth 20000 in
theorem ggL_law_X5_best : GoodIn wsL_law wsX5_best := goodIn_r _ [430, 233, 45, 26, 431, 127, 128, 129, 2, 130, 29, 432, 433, 434, 44, 435, 436, 437, 81, 438, 439, 440, 441, 442, 18, 19, 20, 82, 443, 444, 445, 446, 83, 447, 84, 448, 449, 450, 451, 85, 452, 22, 23, 453, 454, 455, 456, 510, 511, 512, 513, 514, 515, 516, 517, 552, 553, 554, 555, 556, 543, 544, 545, 546, 547] (by decide +kernel) (by decide +kernel)
set_option maxRecDepth 20000 in
theorem gL_law_X5_best : GoodIn wsL_law (wsV RL 96 RX5 yX5_best wsX5_best) := goodIn_app (goodIn_of _ (by decide +kernel)) ggL_law_X5_best
set_option maxRecDepth 20000 in
theorem ggL_law_X6_best : GoodIn wsL_law wsX6_best := goodIn_r _ [460, 119, 274, 109, 138, 139, 140, 5, 141, 120, 142, 143, 144, 461, 462, 463, 464, 90, 110, 91, 108, 465, 466, 467, 468, 469, 470, 471, 472, 518, 519, 520, 521, 522, 523, 524, 525, 526, 527, 528, 529, 530, 531, 532, 533, 534, 535, 536, 537, 538, 539, 540, 541, 542] (by decide +kernel) (by decide +kernel)
set_option maxRecDepth 20000 in
theorem gL_law_X6_best : GoodIn wsL_law (wsV RL 99 RX6 yX6_best wsX6_best) := goodIn_app (goodIn_of _ (by decide +kernel)) ggL_law_X6_best
set_option maxRecDepth 20000 in
theorem ggL_law_X5_lot : GoodIn wsL_law wsX5_lot := goodIn_r _ [476, 45, 26, 477, 127, 128, 129, 2, 130, 29, 153, 154, 155, 156, 24, 432, 433, 434, 44, 435, 436, 437, 81, 438, 439, 440, 441, 442, 18, 19, 20, 82, 443, 444, 445, 446, 83, 447, 84, 448, 449, 450, 451, 85, 452, 22, 23, 453, 454, 455, 456, 510, 511, 512, 513, 514, 515, 516, 517, 552, 553, 554, 555, 556, 543, 544, 545, 546, 547] (by decide +kernel) (by decide +kernel)
set_option maxRecDepth 20000 in
theorem gL_law_X5_lot : GoodIn wsL_law (wsV RL 100 RX5 yX5_lot wsX5_lot) := goodIn_app (goodIn_of _ (by decide +kernel)) ggL_law_X5_lot
set_option maxRecDepth 20000 in
theorem ggL_law_X6_lot : GoodIn wsL_law wsX6_lot := goodIn_r _ [481, 119, 108, 109, 138, 139, 140, 5, 141, 120, 142, 143, 144, 161, 162, 163, 164, 110, 461, 462, 463, 464, 90, 91, 274, 465, 466, 467, 468, 469, 470, 471, 472, 518, 519, 520, 521, 522, 523, 524, 525, 526, 527, 528, 529, 530, 531, 532, 533, 534, 535, 536, 537, 538, 539, 540, 541, 542] (by decide +kernel) (by decide +kernel)
set_option maxRecDepth 20000 in
theorem gL_law_X6_lot : GoodIn wsL_law (wsV RL 103 RX6 yX6_lot wsX6_lot) := goodIn_app (goodIn_of _ (by decide +kernel)) ggL_law_X6_lot
set_option maxRecDepth 20000 in
theorem ggL_law_X5_from : GoodIn wsL_law wsX5_from := goodIn_r _ [485, 24, 233, 45, 26, 431, 127, 128, 129, 2, 130, 29, 432, 433, 434, 44, 435, 436, 437, 81, 438, 439, 440, 441, 442, 18, 19, 20, 82, 443, 444, 445, 446, 83, 447, 84, 448, 449, 450, 451, 85, 452, 22, 23, 453, 454, 455, 456, 510, 511, 512, 513, 514, 515, 516, 517, 552, 553, 554, 555, 556, 543, 544, 545, 546, 547] (by decide +kernel) (by decide +kernel)
set_option maxRecDepth 20000 in
theorem gL_law_X5_from : GoodIn wsL_law (wsV RL 104 RX5 yX5_from wsX5_from) := goodIn_app (goodIn_of _ (by decide +kernel)) ggL_law_X5_from
