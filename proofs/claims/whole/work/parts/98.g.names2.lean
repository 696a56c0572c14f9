set_option maxRecDepth 20000 in
theorem inT_wsL_law0_r10 : ∀ w ∈ wsL_law0_r10, w ∈ lw_tbl := mem_r _ [307, 308, 309, 310, 60, 311, 312, 313, 314, 315, 317, 6, 318, 90, 323, 325, 324, 61, 319, 321, 7, 322, 259, 326] (by decide +kernel)
set_option maxRecDepth 20000 in
theorem inT_wsL_law0_r11 : ∀ w ∈ wsL_law0_r11, w ∈ lw_tbl := mem_r _ [328, 8, 329, 330, 331, 332, 333, 334, 335, 337, 9, 338, 339, 341, 10, 342, 145, 343, 344, 345, 346, 347, 349, 11] (by decide +kernel)
set_option maxRecDepth 20000 in
theorem inT_wsL_law0_r12 : ∀ w ∈ wsL_law0_r12, w ∈ lw_tbl := mem_r _ [350, 351, 352, 354, 12, 355, 356, 357, 358, 359, 360, 361, 362, 363, 364, 366, 13, 367, 368, 369, 370, 371, 372, 373] (by decide +kernel)
set_option maxRecDepth 20000 in
theorem inT_wsL_law0_r13 : ∀ w ∈ wsL_law0_r13, w ∈ lw_tbl := mem_r _ [374, 375, 713, 714, 715, 716, 717, 719, 26, 720, 721, 723, 27, 724, 725, 727, 28, 728, 729, 731, 29, 732, 733, 735] (by decide +kernel)
set_option maxRecDepth 20000 in
theorem inT_wsL_law0_r14 : ∀ w ∈ wsL_law0_r14, w ∈ lw_tbl := mem_r _ [30, 736, 737, 739, 31, 740, 741, 743, 32, 744, 745, 747, 33, 748, 749, 751, 34, 752, 753, 755, 35, 756, 757, 759] (by decide +kernel)
set_option maxRecDepth 20000 in
theorem inT_wsL_law0_r15 : ∀ w ∈ wsL_law0_r15, w ∈ lw_tbl := mem_r _ [36, 760, 761, 763, 37, 764, 765, 767, 38, 768, 769, 771, 39, 772, 773, 775, 40, 776, 777, 779, 41, 780, 781, 783] (by decide +kernel)
set_option maxRecDepth 20000 in
theorem inT_wsL_law0_r16 : ∀ w ∈ wsL_law0_r16, w ∈ lw_tbl := mem_r _ [42, 784, 785, 787, 43, 788, 376, 377, 378, 379, 380, 382, 14, 383, 257, 789, 790, 791, 792, 793, 795, 44, 796, 384] (by decide +kernel)
set_option maxRecDepth 20000 in
theorem inT_wsL_law0_r17 : ∀ w ∈ wsL_law0_r17, w ∈ lw_tbl := mem_r _ [385, 386, 387, 388, 389, 391, 15, 392, 84, 797, 798, 799, 800, 393, 394, 395, 396, 397, 398, 399, 400, 401, 402, 801] (by decide +kernel)
set_option maxRecDepth 20000 in
theorem inT_wsL_law0_r18 : ∀ w ∈ wsL_law0_r18, w ∈ lw_tbl := mem_r _ [802, 803, 804, 403, 404, 405, 406, 407, 409, 16, 410, 411, 412, 413, 414, 415, 805, 806, 807, 808, 809, 811, 45, 812] (by decide +kernel)
