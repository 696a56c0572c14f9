set_option maxRecDepth 20000 in
theorem ggL_law_X4_coach : GoodIn wsL_law wsX4_coach := goodIn_r _ [99, 56, 58, 59, 60, 673, 674, 675, 676, 677, 678, 679, 680, 681, 682, 683, 684, 685, 686, 687, 688, 689, 690, 691, 692, 693, 694, 695] (by decide +kernel) (by decide +kernel)
set_option maxRecDepth 20000 in
theorem gL_law_X4_coach : GoodIn wsL_law (wsV RL 30 RX4 yX4_coach wsX4_coach) := goodIn_app (goodIn_of _ (by decide +kernel)) ggL_law_X4_coach
set_option maxRecDepth 20000 in
theorem ggL_law_X3_flags : GoodIn wsL_law wsX3_flags := goodIn_r _ [103, 21, 104, 105, 106, 107, 20, 108, 45, 109, 110, 111, 112, 90, 44, 113, 114, 115, 116, 117, 118, 119, 120, 121, 122, 2, 123, 663, 664, 665, 666, 667, 668, 669, 670, 671, 672, 696, 697, 698, 699, 700, 701, 702, 703, 704, 705] (by decide +kernel) (by decide +kernel)
set_option maxRecDepth 20000 in
theorem gL_law_X3_flags : GoodIn wsL_law (wsV RL 31 RX3 yX3_flags wsX3_flags) := goodIn_app (goodIn_of _ (by decide +kernel)) ggL_law_X3_flags
set_option maxRecDepth 20000 in
theorem ggL_law_X4_flags : GoodIn wsL_law wsX4_flags := goodIn_r _ [127, 56, 62, 128, 129, 130, 5, 131, 58, 61, 59, 673, 674, 675, 676, 677, 678, 679, 680, 681, 682, 683, 684, 685, 686, 687, 688, 689, 690, 691, 692, 693, 694, 695] (by decide +kernel) (by decide +kernel)
set_option maxRecDepth 20000 in
theorem gL_law_X4_flags : GoodIn wsL_law (wsV RL 35 RX4 yX4_flags wsX4_flags) := goodIn_app (goodIn_of _ (by decide +kernel)) ggL_law_X4_flags
set_option maxRecDepth 20000 in
theorem ggL_law_X3_quota : GoodIn wsL_law wsX3_quota := goodIn_r _ [135, 30, 136, 137, 138, 2, 139, 17, 140, 141, 142, 663, 664, 665, 666, 667, 668, 669, 670, 671, 672] (by decide +kernel) (by decide +kernel)
set_option maxRecDepth 20000 in
theorem gL_law_X3_quota : GoodIn wsL_law (wsV RL 36 RX3 yX3_quota wsX3_quota) := goodIn_app (goodIn_of _ (by decide +kernel)) ggL_law_X3_quota
set_option maxRecDepth 20000 in
theorem ggL_law_X4_quota : GoodIn wsL_law wsX4_quota := goodIn_r _ [146, 56, 57, 63, 673, 674, 675, 676, 677, 678, 679, 680, 681, 682, 683, 684, 685, 686, 687, 688, 689, 690, 691, 692, 693, 694, 695] (by decide +kernel) (by decide +kernel)
set_option maxRecDepth 20000 in
theorem gL_law_X4_quota : GoodIn wsL_law (wsV RL 39 RX4 yX4_quota wsX4_quota) := goodIn_app (goodIn_of _ (by decide +kernel)) ggL_law_X4_quota
set_option maxRecDepth 20000 in
theorem ggL_law_X3_book : GoodIn wsL_law wsX3_book := goodIn_r _ [150, 151, 152, 153, 2, 154, 155, 156, 157, 158, 159, 17, 83, 84, 85, 160, 161, 162, 163, 164, 165, 166, 167, 168, 27, 26, 169, 170, 171, 172, 173, 174, 15, 16, 175, 29, 176, 177, 178, 179, 180, 181, 182, 183, 184, 185, 186, 187, 188, 189, 190, 191, 192, 193, 194, 21, 195, 196, 197, 198, 199, 200, 20, 201, 91, 38, 202, 203, 204, 205, 206, 207, 208, 209, 210, 211, 212, 213, 41, 42, 214, 215, 216, 217, 46, 218, 219, 220, 221, 222, 223, 224, 225, 226, 227, 228, 229, 33, 230, 231, 232, 233, 234, 235, 236, 237, 238, 31, 239, 240, 241, 242, 243, 244, 245, 246, 247, 248, 249, 250, 251, 32, 252, 253, 254, 255, 256, 257, 258, 259, 260, 261, 262, 263, 264, 265, 266, 267, 268, 269, 270, 271, 272, 273, 274, 275, 276, 277, 278, 279, 280, 281, 282, 283, 284, 285, 286, 287, 288, 289, 663, 664, 665, 666, 667, 668, 669, 670, 671, 672, 709, 710, 711, 712, 713, 714, 715, 716, 696, 697, 698, 699, 700, 701, 702, 703, 704, 705] (by decide +kernel) (by decide +kernel)
set_option maxRecDepth 20000 in
theorem gL_law_X3_book : GoodIn wsL_law (wsV RL 40 RX3 yX3_book wsX3_book) := goodIn_app (goodIn_of _ (by decide +kernel)) ggL_law_X3_book
