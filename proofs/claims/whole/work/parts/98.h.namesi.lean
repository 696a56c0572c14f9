set_option maxRecDepth 20000 in
theorem ggL_law_X4_manifest : GoodIn wsL_law wsX4_manifest := goodIn_r _ [640, 56, 64, 65, 67, 66, 673, 674, 675, 676, 677, 678, 679, 680, 681, 682, 683, 684, 685, 686, 687, 688, 689, 690, 691, 692, 693, 694, 695] (by decide +kernel) (by decide +kernel)
set_option maxRecDepth 20000 in
theorem gL_law_X4_manifest : GoodIn wsL_law (wsV RL 121 RX4 yX4_manifest wsX4_manifest) := goodIn_app (goodIn_of _ (by decide +kernel)) ggL_law_X4_manifest
set_option maxRecDepth 20000 in
theorem ggL_law_L_ride : GoodIn wsL_law wsL_ride := goodIn_ca (goodIn_r _ [643, 644, 645, 646, 647, 2, 648, 649, 650, 155, 27, 238, 196, 197, 195, 374, 651, 652, 653, 170, 654, 181, 182, 176, 663, 664, 665, 666, 667, 668, 669, 670, 671, 672, 709, 710, 711, 712, 713, 714, 715, 716] (by decide +kernel) (by decide +kernel)) (goodIn_sub (fun _ h => List.mem_append_right _ h) (by decide +kernel))
set_option maxRecDepth 20000 in
theorem gL_law_L_ride : GoodIn wsL_law (va_wsS RL 122 yL_ride wsL_ride) := goodIn_app (goodIn_of _ (by decide +kernel)) ggL_law_L_ride
set_option maxRecDepth 20000 in
theorem ggL_law_X4_ride : GoodIn wsL_law wsX4_ride := goodIn_r _ [658, 64, 56, 65, 66, 67, 68, 69, 71, 673, 674, 675, 676, 677, 678, 679, 680, 681, 682, 683, 684, 685, 686, 687, 688, 689, 690, 691, 692, 693, 694, 695] (by decide +kernel) (by decide +kernel)
set_option maxRecDepth 20000 in
theorem gL_law_X4_ride : GoodIn wsL_law (wsV RL 125 RX4 yX4_ride wsX4_ride) := goodIn_app (goodIn_of _ (by decide +kernel)) ggL_law_X4_ride
set_option maxRecDepth 20000 in
theorem ggL_law_X4_thrown : GoodIn wsL_law wsX4_thrown := goodIn_r _ [662, 56, 673, 674, 675, 676, 677, 678, 679, 680, 681, 682, 683, 684, 685, 686, 687, 688, 689, 690, 691, 692, 693, 694, 695] (by decide +kernel) (by decide +kernel)
set_option maxRecDepth 20000 in
theorem gL_law_X4_thrown : GoodIn wsL_law (wsV RL 126 RX4 yX4_thrown wsX4_thrown) := goodIn_app (goodIn_of _ (by decide +kernel)) ggL_law_X4_thrown
