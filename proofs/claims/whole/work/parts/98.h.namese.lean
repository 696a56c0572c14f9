set_option maxRecDepth 20000 in
theorem ggL_law_X4_wish : GoodIn wsL_law wsX4_wish := goodIn_r _ [479, 56, 65, 59, 58, 68, 62, 66, 67, 71, 480, 481, 482, 5, 483, 64, 322, 323, 324, 325, 61, 60, 326, 327, 328, 329, 330, 331, 332, 333, 334, 335, 336, 337, 338, 339, 340, 341, 73, 74, 75, 76, 342, 343, 344, 345, 350, 351, 352, 353, 484, 485, 486, 487, 488, 489, 490, 491, 354, 355, 356, 357, 72, 57, 77, 310, 311, 312, 313, 318, 319, 320, 321, 346, 347, 348, 349, 673, 674, 675, 676, 677, 678, 679, 680, 681, 682, 683, 684, 685, 686, 687, 688, 689, 690, 691, 692, 693, 694, 695] (by decide +kernel) (by decide +kernel)
set_option maxRecDepth 20000 in
theorem gL_law_X4_wish : GoodIn wsL_law (wsV RL 69 RX4 yX4_wish wsX4_wish) := goodIn_app (goodIn_of _ (by decide +kernel)) ggL_law_X4_wish
set_option maxRecDepth 20000 in
theorem ggL_law_X3_print : GoodIn wsL_law wsX3_print := goodIn_r _ [495, 27, 238, 496, 453, 454, 455, 2, 456, 155, 282, 283, 284, 170, 285, 185, 663, 664, 665, 666, 667, 668, 669, 670, 671, 672, 709, 710, 711, 712, 713, 714, 715, 716] (by decide +kernel) (by decide +kernel)
set_option maxRecDepth 20000 in
theorem gL_law_X3_print : GoodIn wsL_law (wsV RL 70 RX3 yX3_print wsX3_print) := goodIn_app (goodIn_of _ (by decide +kernel)) ggL_law_X3_print
set_option maxRecDepth 20000 in
theorem ggL_law_X4_print : GoodIn wsL_law wsX4_print := goodIn_r _ [500, 56, 65, 70, 480, 481, 482, 5, 483, 64, 673, 674, 675, 676, 677, 678, 679, 680, 681, 682, 683, 684, 685, 686, 687, 688, 689, 690, 691, 692, 693, 694, 695] (by decide +kernel) (by decide +kernel)
set_option maxRecDepth 20000 in
theorem gL_law_X4_print : GoodIn wsL_law (wsV RL 74 RX4 yX4_print wsX4_print) := goodIn_app (goodIn_of _ (by decide +kernel)) ggL_law_X4_print
set_option maxRecDepth 20000 in
theorem ggL_law_X3_cancel : GoodIn wsL_law wsX3_cancel := goodIn_r _ [504, 27, 196, 197, 238, 453, 454, 455, 2, 456, 155, 282, 283, 284, 170, 285, 185, 457, 458, 459, 460, 461, 21, 229, 265, 208, 209, 257, 258, 259, 260, 176, 663, 664, 665, 666, 667, 668, 669, 670, 671, 672, 709, 710, 711, 712, 713, 714, 715, 716, 696, 697, 698, 699, 700, 701, 702, 703, 704, 705] (by decide +kernel) (by decide +kernel)
set_option maxRecDepth 20000 in
theorem gL_law_X3_cancel : GoodIn wsL_law (wsV RL 75 RX3 yX3_cancel wsX3_cancel) := goodIn_app (goodIn_of _ (by decide +kernel)) ggL_law_X3_cancel
set_option maxRecDepth 20000 in
theorem ggL_law_X4_cancel : GoodIn wsL_law wsX4_cancel := goodIn_r _ [508, 56, 65, 480, 481, 482, 5, 483, 64, 310, 311, 312, 313, 71, 673, 674, 675, 676, 677, 678, 679, 680, 681, 682, 683, 684, 685, 686, 687, 688, 689, 690, 691, 692, 693, 694, 695] (by decide +kernel) (by decide +kernel)
set_option maxRecDepth 20000 in
theorem gL_law_X4_cancel : GoodIn wsL_law (wsV RL 78 RX4 yX4_cancel wsX4_cancel) := goodIn_app (goodIn_of _ (by decide +kernel)) ggL_law_X4_cancel
set_option maxRecDepth 20000 in
theorem ggL_law_X3_shorten : GoodIn wsL_law wsX3_shorten := goodIn_r _ [512, 27, 238, 196, 197, 453, 454, 455, 2, 456, 155, 282, 283, 284, 170, 285, 185, 457, 458, 459, 460, 461, 21, 229, 265, 208, 209, 257, 258, 259, 260, 176, 663, 664, 665, 666, 667, 668, 669, 670, 671, 672, 709, 710, 711, 712, 713, 714, 715, 716, 696, 697, 698, 699, 700, 701, 702, 703, 704, 705] (by decide +kernel) (by decide +kernel)
set_option maxRecDepth 20000 in
theorem gL_law_X3_shorten : GoodIn wsL_law (wsV RL 79 RX3 yX3_shorten wsX3_shorten) := goodIn_app (goodIn_of _ (by decide +kernel)) ggL_law_X3_shorten
