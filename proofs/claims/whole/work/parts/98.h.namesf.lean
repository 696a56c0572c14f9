set_option maxRecDepth 20000 in
theorem ggL_law_X4_shorten : GoodIn wsL_law wsX4_shorten := goodIn_r _ [516, 56, 65, 66, 67, 71, 480, 481, 482, 5, 483, 64, 673, 674, 675, 676, 677, 678, 679, 680, 681, 682, 683, 684, 685, 686, 687, 688, 689, 690, 691, 692, 693, 694, 695] (by decide +kernel) (by decide +kernel)
set_option maxRecDepth 20000 in
theorem gL_law_X4_shorten : GoodIn wsL_law (wsV RL 82 RX4 yX4_shorten wsX4_shorten) := goodIn_app (goodIn_of _ (by decide +kernel)) ggL_law_X4_shorten
set_option maxRecDepth 20000 in
theorem ggL_law_X3_seatOf : GoodIn wsL_law wsX3_seatOf := goodIn_r _ [520, 27, 461, 21, 452, 453, 454, 455, 2, 456, 155, 282, 283, 284, 170, 285, 185, 286, 287, 288, 289, 181, 182, 663, 664, 665, 666, 667, 668, 669, 670, 671, 672, 709, 710, 711, 712, 713, 714, 715, 716, 696, 697, 698, 699, 700, 701, 702, 703, 704, 705] (by decide +kernel) (by decide +kernel)
set_option maxRecDepth 20000 in
theorem gL_law_X3_seatOf : GoodIn wsL_law (wsV RL 83 RX3 yX3_seatOf wsX3_seatOf) := goodIn_app (goodIn_of _ (by decide +kernel)) ggL_law_X3_seatOf
set_option maxRecDepth 20000 in
theorem ggL_law_X4_seatOf : GoodIn wsL_law wsX4_seatOf := goodIn_r _ [524, 56, 57, 71, 480, 481, 482, 5, 483, 64, 65, 484, 485, 486, 487, 59, 326, 327, 328, 329, 673, 674, 675, 676, 677, 678, 679, 680, 681, 682, 683, 684, 685, 686, 687, 688, 689, 690, 691, 692, 693, 694, 695] (by decide +kernel) (by decide +kernel)
set_option maxRecDepth 20000 in
theorem gL_law_X4_seatOf : GoodIn wsL_law (wsV RL 86 RX4 yX4_seatOf wsX4_seatOf) := goodIn_app (goodIn_of _ (by decide +kernel)) ggL_law_X4_seatOf
set_option maxRecDepth 20000 in
theorem ggL_law_X3_block : GoodIn wsL_law wsX3_block := goodIn_r _ [528, 21, 25, 229, 529, 392, 105, 106, 107, 20, 108, 45, 109, 110, 111, 112, 90, 44, 113, 114, 115, 116, 117, 118, 119, 120, 156, 157, 158, 2, 159, 17, 530, 531, 532, 24, 533, 534, 535, 536, 537, 538, 155, 27, 238, 461, 265, 208, 209, 539, 540, 541, 542, 50, 51, 543, 544, 545, 546, 225, 226, 227, 228, 33, 230, 231, 232, 233, 234, 235, 236, 237, 196, 195, 31, 239, 240, 241, 242, 243, 244, 245, 170, 246, 176, 181, 247, 205, 206, 207, 182, 248, 249, 250, 251, 32, 198, 199, 200, 201, 91, 38, 202, 203, 204, 210, 211, 212, 213, 41, 42, 214, 215, 216, 217, 46, 218, 219, 220, 221, 222, 223, 224, 252, 253, 254, 255, 256, 197, 257, 258, 259, 260, 547, 548, 549, 550, 551, 552, 553, 554, 663, 664, 665, 666, 667, 668, 669, 670, 671, 672, 696, 697, 698, 699, 700, 701, 702, 703, 704, 705, 706, 707, 708, 709, 710, 711, 712, 713, 714, 715, 716] (by decide +kernel) (by decide +kernel)
set_option maxRecDepth 20000 in
theorem gL_law_X3_block : GoodIn wsL_law (wsV RL 87 RX3 yX3_block wsX3_block) := goodIn_app (goodIn_of _ (by decide +kernel)) ggL_law_X3_block
set_option maxRecDepth 20000 in
theorem ggL_law_X4_block : GoodIn wsL_law wsX4_block := goodIn_r _ [558, 56, 65, 74, 73, 75, 76, 60, 128, 129, 130, 5, 131, 58, 61, 59, 298, 299, 300, 301, 57, 342, 343, 344, 345, 64, 71, 354, 355, 356, 357, 72, 68, 66, 67, 77, 310, 311, 312, 313, 318, 319, 320, 321, 322, 323, 324, 325, 326, 327, 328, 329, 330, 331, 332, 333, 334, 335, 336, 337, 338, 339, 340, 341, 346, 347, 348, 349, 350, 351, 352, 353, 673, 674, 675, 676, 677, 678, 679, 680, 681, 682, 683, 684, 685, 686, 687, 688, 689, 690, 691, 692, 693, 694, 695] (by decide +kernel) (by decide +kernel)
set_option maxRecDepth 20000 in
theorem gL_law_X4_block : GoodIn wsL_law (wsV RL 90 RX4 yX4_block wsX4_block) := goodIn_app (goodIn_of _ (by decide +kernel)) ggL_law_X4_block
set_option maxRecDepth 20000 in
theorem ggL_law_X3_unblock : GoodIn wsL_law wsX3_unblock := goodIn_r _ [562, 21, 25, 529, 105, 106, 107, 20, 108, 45, 109, 110, 111, 112, 90, 44, 113, 114, 115, 116, 117, 118, 119, 120, 156, 157, 158, 2, 159, 17, 265, 208, 209, 547, 548, 549, 24, 550, 534, 50, 51, 551, 552, 553, 554, 543, 544, 545, 546, 663, 664, 665, 666, 667, 668, 669, 670, 671, 672, 696, 697, 698, 699, 700, 701, 702, 703, 704, 705, 706, 707, 708] (by decide +kernel) (by decide +kernel)
set_option maxRecDepth 20000 in
theorem gL_law_X3_unblock : GoodIn wsL_law (wsV RL 91 RX3 yX3_unblock wsX3_unblock) := goodIn_app (goodIn_of _ (by decide +kernel)) ggL_law_X3_unblock
