set_option maxRecDepth 20000 in
theorem inT_wsL_law0_r28 : ∀ w ∈ wsL_law0_r28, w ∈ lw_tbl := mem_r _ [545, 546, 65, 612, 613, 614, 615, 897, 898, 899, 900, 693, 694, 695, 696] (by decide +kernel)
set_option maxRecDepth 20000 in
theorem inT_wsX30 : ∀ w ∈ wsX30, w ∈ lw_tbl := mem_r _ [149, 151, 153, 155, 157, 159, 161, 163, 165, 167] (by decide +kernel)
set_option maxRecDepth 20000 in
theorem inT_wsX40 : ∀ w ∈ wsX40, w ∈ lw_tbl := mem_r _ [646, 648, 650, 652, 654, 656, 658, 660, 662, 664, 666, 668, 670, 672, 674, 676, 678, 680, 682, 684, 686, 688, 690] (by decide +kernel)
set_option maxRecDepth 20000 in
theorem inT_wsX20 : ∀ w ∈ wsX20, w ∈ lw_tbl := mem_r _ [96, 98, 100, 102, 104, 106, 108, 110, 112, 114] (by decide +kernel)
set_option maxRecDepth 20000 in
theorem inT_wsX00 : ∀ w ∈ wsX00, w ∈ lw_tbl := mem_r _ [128, 130, 132] (by decide +kernel)
set_option maxRecDepth 20000 in
theorem inT_wsX10 : ∀ w ∈ wsX10, w ∈ lw_tbl := mem_r _ [262, 264, 266, 268, 270, 272, 274, 276] (by decide +kernel)
set_option maxRecDepth 20000 in
theorem inT_vx : ∀ w ∈ ((ns_at RX3 233 "java/util/NoSuchElementException" 13 nsCode ["java/lang/RuntimeException", "java/lang/Exception"]).filter goodWord), w ∈ lw_tbl := mem_r _ [62, 568, 577, 579, 582, 584, 569, 570, 72, 73, 571, 576, 580, 600, 558, 601, 560, 602, 562, 572, 574, 564, 596, 597, 599, 564, 587, 588, 589, 590, 590, 591, 592, 593, 593, 594, 595, 596, 586, 547, 555, 556, 557, 559, 561, 563, 567, 566, 565] (by decide +kernel)
theorem inA {a b t : List Cond} (ha : ∀ w ∈ a, w ∈ t) (hb : ∀ w ∈ b, w ∈ t) : ∀ w ∈ a ++ b, w ∈ t := fun w h => (List.mem_append.mp h).elim (ha w) (hb w)
theorem wsL_law_in0 : ∀ w ∈ wsL_law0, w ∈ lw_tbl := (inA (inA (inA (inA (inA (inA (inA inT_wsL_law0_r1 (inA inT_wsL_law0_r2 (inA inT_wsL_law0_r3 (inA inT_wsL_law0_r4 (inA inT_wsL_law0_r5 (inA inT_wsL_law0_r6 (inA inT_wsL_law0_r7 (inA inT_wsL_law0_r8 (inA inT_wsL_law0_r9 (inA inT_wsL_law0_r10 (inA inT_wsL_law0_r11 (inA inT_wsL_law0_r12 (inA inT_wsL_law0_r13 (inA inT_wsL_law0_r14 (inA inT_wsL_law0_r15 (inA inT_wsL_law0_r16 (inA inT_wsL_law0_r17 (inA inT_wsL_law0_r18 (inA inT_wsL_law0_r19 (inA inT_wsL_law0_r20 (inA inT_wsL_law0_r21 (inA inT_wsL_law0_r22 (inA inT_wsL_law0_r23 (inA inT_wsL_law0_r24 (inA inT_wsL_law0_r25 (inA inT_wsL_law0_r26 (inA inT_wsL_law0_r27 inT_wsL_law0_r28))))))))))))))))))))))))))) inT_wsX30) inT_wsX40) inT_wsX20) inT_wsX00) inT_wsX10) (fun _ h => nomatch h))
theorem wsL_law_in : ∀ w ∈ wsL_law, w ∈ lw_tbl := inA wsL_law_in0 inT_vx
