set_option maxRecDepth 20000 in
theorem ggL_law_X4_unblock : GoodIn wsL_law wsX4_unblock := goodIn_r _ [566, 56, 73, 74, 75, 76, 128, 129, 130, 5, 131, 58, 61, 59, 567, 568, 569, 570, 673, 674, 675, 676, 677, 678, 679, 680, 681, 682, 683, 684, 685, 686, 687, 688, 689, 690, 691, 692, 693, 694, 695] (by decide +kernel) (by decide +kernel)
set_option maxRecDepth 20000 in
theorem gL_law_X4_unblock : GoodIn wsL_law (wsV RL 95 RX4 yX4_unblock wsX4_unblock) := goodIn_app (goodIn_of _ (by decide +kernel)) ggL_law_X4_unblock
set_option maxRecDepth 20000 in
theorem ggL_law_X3_removeCoach : GoodIn wsL_law wsX3_removeCoach := goodIn_r _ [574, 21, 155, 27, 196, 197, 496, 238, 25, 575, 110, 111, 20, 112, 90, 44, 576, 577, 578, 2, 579, 461, 405, 118, 119, 120, 45, 406, 114, 115, 116, 457, 458, 459, 460, 229, 265, 208, 209, 257, 258, 259, 170, 260, 176, 580, 581, 582, 24, 583, 534, 50, 551, 552, 553, 554, 51, 584, 585, 586, 587, 38, 588, 589, 590, 591, 191, 192, 193, 194, 195, 198, 199, 200, 201, 91, 202, 203, 204, 205, 206, 207, 181, 182, 210, 211, 212, 213, 41, 42, 214, 215, 216, 217, 46, 218, 219, 220, 221, 222, 223, 224, 225, 226, 227, 228, 33, 230, 231, 232, 233, 234, 235, 236, 237, 17, 31, 239, 240, 241, 242, 243, 244, 245, 246, 247, 248, 249, 250, 251, 32, 252, 253, 254, 255, 256, 261, 262, 263, 264, 663, 664, 665, 666, 667, 668, 669, 670, 671, 672, 709, 710, 711, 712, 713, 714, 715, 716, 696, 697, 698, 699, 700, 701, 702, 703, 704, 705, 706, 707, 708] (by decide +kernel) (by decide +kernel)
set_option maxRecDepth 20000 in
theorem gL_law_X3_removeCoach : GoodIn wsL_law (wsV RL 96 RX3 yX3_removeCoach wsX3_removeCoach) := goodIn_app (goodIn_of _ (by decide +kernel)) ggL_law_X3_removeCoach
set_option maxRecDepth 20000 in
theorem ggL_law_X4_removeCoach : GoodIn wsL_law wsX4_removeCoach := goodIn_r _ [595, 56, 58, 61, 73, 74, 59, 64, 78, 65, 70, 567, 568, 569, 5, 570, 75, 76, 480, 481, 482, 483, 596, 597, 598, 599, 71, 310, 311, 312, 313, 314, 315, 316, 317, 66, 67, 68, 318, 319, 320, 321, 322, 323, 324, 325, 60, 326, 327, 328, 329, 330, 331, 332, 333, 334, 335, 336, 337, 338, 339, 340, 341, 342, 343, 344, 345, 346, 347, 348, 349, 57, 350, 351, 352, 353, 354, 355, 356, 357, 72, 77, 673, 674, 675, 676, 677, 678, 679, 680, 681, 682, 683, 684, 685, 686, 687, 688, 689, 690, 691, 692, 693, 694, 695] (by decide +kernel) (by decide +kernel)
set_option maxRecDepth 20000 in
theorem gL_law_X4_removeCoach : GoodIn wsL_law (wsV RL 100 RX4 yX4_removeCoach wsX4_removeCoach) := goodIn_app (goodIn_of _ (by decide +kernel)) ggL_law_X4_removeCoach
set_option maxRecDepth 20000 in
theorem ggL_law_X3_standing : GoodIn wsL_law wsX3_standing := goodIn_r _ [603, 155, 27, 238, 663, 664, 665, 666, 667, 668, 669, 670, 671, 672, 709, 710, 711, 712, 713, 714, 715, 716] (by decide +kernel) (by decide +kernel)
set_option maxRecDepth 20000 in
theorem gL_law_X3_standing : GoodIn wsL_law (wsV RL 101 RX3 yX3_standing wsX3_standing) := goodIn_app (goodIn_of _ (by decide +kernel)) ggL_law_X3_standing
set_option maxRecDepth 20000 in
theorem ggL_law_X4_standing : GoodIn wsL_law wsX4_standing := goodIn_r _ [607, 56, 64, 65, 673, 674, 675, 676, 677, 678, 679, 680, 681, 682, 683, 684, 685, 686, 687, 688, 689, 690, 691, 692, 693, 694, 695] (by decide +kernel) (by decide +kernel)
set_option maxRecDepth 20000 in
theorem gL_law_X4_standing : GoodIn wsL_law (wsV RL 104 RX4 yX4_standing wsX4_standing) := goodIn_app (goodIn_of _ (by decide +kernel)) ggL_law_X4_standing
set_option maxRecDepth 20000 in
theorem ggL_law_X3_load : GoodIn wsL_law wsX3_load := goodIn_r _ [611, 136, 137, 138, 2, 139, 17, 83, 84, 85, 278, 279, 280, 281, 155, 27, 195, 282, 283, 284, 170, 285, 185, 286, 287, 288, 289, 181, 182, 663, 664, 665, 666, 667, 668, 669, 670, 671, 672, 709, 710, 711, 712, 713, 714, 715, 716] (by decide +kernel) (by decide +kernel)
set_option maxRecDepth 20000 in
theorem gL_law_X3_load : GoodIn wsL_law (wsV RL 105 RX3 yX3_load wsX3_load) := goodIn_app (goodIn_of _ (by decide +kernel)) ggL_law_X3_load
