set_option maxRecDepth 20000 in
theorem ggL_law_X4_load : GoodIn wsL_law wsX4_load := goodIn_r _ [615, 56, 57, 358, 359, 360, 5, 361, 64, 65, 68, 66, 67, 673, 674, 675, 676, 677, 678, 679, 680, 681, 682, 683, 684, 685, 686, 687, 688, 689, 690, 691, 692, 693, 694, 695] (by decide +kernel) (by decide +kernel)
set_option maxRecDepth 20000 in
theorem gL_law_X4_load : GoodIn wsL_law (wsV RL 108 RX4 yX4_load wsX4_load) := goodIn_app (goodIn_of _ (by decide +kernel)) ggL_law_X4_load
set_option maxRecDepth 20000 in
theorem ggL_law_X3_free : GoodIn wsL_law wsX3_free := goodIn_r _ [619, 21, 136, 137, 138, 2, 139, 17, 83, 84, 85, 265, 208, 209, 620, 275, 276, 20, 277, 91, 38, 210, 211, 212, 213, 41, 42, 663, 664, 665, 666, 667, 668, 669, 670, 671, 672, 696, 697, 698, 699, 700, 701, 702, 703, 704, 705] (by decide +kernel) (by decide +kernel)
set_option maxRecDepth 20000 in
theorem gL_law_X3_free : GoodIn wsL_law (wsV RL 109 RX3 yX3_free wsX3_free) := goodIn_app (goodIn_of _ (by decide +kernel)) ggL_law_X3_free
set_option maxRecDepth 20000 in
theorem ggL_law_X4_free : GoodIn wsL_law wsX4_free := goodIn_r _ [624, 56, 57, 59, 58, 322, 323, 324, 5, 325, 61, 60, 326, 327, 328, 329, 334, 335, 336, 337, 338, 339, 340, 341, 73, 74, 75, 76, 342, 343, 344, 345, 64, 71, 673, 674, 675, 676, 677, 678, 679, 680, 681, 682, 683, 684, 685, 686, 687, 688, 689, 690, 691, 692, 693, 694, 695] (by decide +kernel) (by decide +kernel)
set_option maxRecDepth 20000 in
theorem gL_law_X4_free : GoodIn wsL_law (wsV RL 112 RX4 yX4_free wsX4_free) := goodIn_app (goodIn_of _ (by decide +kernel)) ggL_law_X4_free
set_option maxRecDepth 20000 in
theorem ggL_law_X3_moved : GoodIn wsL_law wsX3_moved := goodIn_r _ [628, 256, 663, 664, 665, 666, 667, 668, 669, 670, 671, 672] (by decide +kernel) (by decide +kernel)
set_option maxRecDepth 20000 in
theorem gL_law_X3_moved : GoodIn wsL_law (wsV RL 113 RX3 yX3_moved wsX3_moved) := goodIn_app (goodIn_of _ (by decide +kernel)) ggL_law_X3_moved
set_option maxRecDepth 20000 in
theorem ggL_law_X4_moved : GoodIn wsL_law wsX4_moved := goodIn_r _ [632, 56, 77, 673, 674, 675, 676, 677, 678, 679, 680, 681, 682, 683, 684, 685, 686, 687, 688, 689, 690, 691, 692, 693, 694, 695] (by decide +kernel) (by decide +kernel)
set_option maxRecDepth 20000 in
theorem gL_law_X4_moved : GoodIn wsL_law (wsV RL 117 RX4 yX4_moved wsX4_moved) := goodIn_app (goodIn_of _ (by decide +kernel)) ggL_law_X4_moved
set_option maxRecDepth 20000 in
theorem ggL_law_X3_manifest : GoodIn wsL_law wsX3_manifest := goodIn_r _ [636, 155, 27, 197, 196, 282, 283, 284, 170, 285, 185, 663, 664, 665, 666, 667, 668, 669, 670, 671, 672, 709, 710, 711, 712, 713, 714, 715, 716] (by decide +kernel) (by decide +kernel)
set_option maxRecDepth 20000 in
theorem gL_law_X3_manifest : GoodIn wsL_law (wsV RL 118 RX3 yX3_manifest wsX3_manifest) := goodIn_app (goodIn_of _ (by decide +kernel)) ggL_law_X3_manifest
