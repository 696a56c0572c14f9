set_option maxRecDepth 20000 in
theorem inT_wsL_law0_r19 : ∀ w ∈ wsL_law0_r19, w ∈ lw_tbl := mem_r _ [813, 815, 46, 816, 817, 819, 47, 820, 416, 417, 418, 419, 821, 822, 823, 824, 420, 421, 422, 423, 86, 424, 426, 17] (by decide +kernel)
set_option maxRecDepth 20000 in
theorem inT_wsL_law0_r20 : ∀ w ∈ wsL_law0_r20, w ∈ lw_tbl := mem_r _ [427, 428, 430, 18, 431, 247, 432, 433, 434, 435, 436, 437, 438, 439, 440, 442, 19, 443, 82, 444, 825, 826, 827, 828] (by decide +kernel)
set_option maxRecDepth 20000 in
theorem inT_wsL_law0_r21 : ∀ w ∈ wsL_law0_r21, w ∈ lw_tbl := mem_r _ [829, 831, 48, 832, 833, 835, 49, 836, 837, 839, 50, 840, 445, 446, 447, 448, 261, 841, 842, 843, 844, 449, 450, 451] (by decide +kernel)
set_option maxRecDepth 20000 in
theorem inT_wsL_law0_r22 : ∀ w ∈ wsL_law0_r22, w ∈ lw_tbl := mem_r _ [452, 845, 846, 847, 848, 453, 454, 455, 456, 849, 850, 851, 852, 457, 458, 459, 460, 853, 854, 855, 856, 461, 462, 463] (by decide +kernel)
set_option maxRecDepth 20000 in
theorem inT_wsL_law0_r23 : ∀ w ∈ wsL_law0_r23, w ∈ lw_tbl := mem_r _ [464, 92, 465, 466, 467, 468, 127, 469, 471, 20, 472, 473, 474, 475, 476, 477, 478, 479, 480, 481, 482, 483, 484, 485] (by decide +kernel)
set_option maxRecDepth 20000 in
theorem inT_wsL_law0_r24 : ∀ w ∈ wsL_law0_r24, w ∈ lw_tbl := mem_r _ [487, 21, 488, 857, 858, 859, 860, 489, 490, 491, 492, 861, 862, 863, 864, 865, 867, 51, 868, 493, 494, 495, 496, 497] (by decide +kernel)
set_option maxRecDepth 20000 in
theorem inT_wsL_law0_r25 : ∀ w ∈ wsL_law0_r25, w ∈ lw_tbl := mem_r _ [498, 500, 22, 501, 502, 503, 504, 505, 506, 507, 508, 509, 510, 512, 23, 513, 869, 870, 871, 872, 873, 875, 52, 876] (by decide +kernel)
set_option maxRecDepth 20000 in
theorem inT_wsL_law0_r26 : ∀ w ∈ wsL_law0_r26, w ∈ lw_tbl := mem_r _ [514, 515, 516, 517, 877, 878, 879, 880, 518, 519, 520, 521, 881, 882, 883, 884, 522, 523, 524, 525, 526, 885, 886, 887] (by decide +kernel)
set_option maxRecDepth 20000 in
theorem inT_wsL_law0_r27 : ∀ w ∈ wsL_law0_r27, w ∈ lw_tbl := mem_r _ [888, 527, 528, 529, 530, 889, 890, 891, 892, 531, 532, 533, 534, 893, 894, 895, 896, 538, 539, 540, 541, 542, 543, 544] (by decide +kernel)
