theorem mem_r {big : List Cond} (ws : List Cond) (ps : List Nat) (hp : ws = ps.filterMap (fun i => big[i]?)) : ∀ w ∈ ws, w ∈ big := by
  intro w hw
  rw [hp] at hw
  obtain ⟨i, -, h⟩ := List.mem_filterMap.mp hw
  exact List.mem_of_getElem? h
set_option maxRecDepth 20000 in
theorem inT_wsL_law0_r1 : ∀ w ∈ wsL_law0_r1, w ∈ lw_tbl := mem_r _ [66, 67, 54, 617, 618, 57, 901, 535, 536, 53, 537, 68, 69, 70, 71, 72, 73, 139, 74, 75, 55, 140, 119, 120] (by decide +kernel)
set_option maxRecDepth 20000 in
theorem inT_wsL_law0_r2 : ∀ w ∈ wsL_law0_r2, w ∈ lw_tbl := mem_r _ [56, 141, 135, 142, 137, 117, 144, 146, 147, 148, 76, 77, 78, 79, 83, 85, 87, 89, 91, 118, 94, 95, 80, 122] (by decide +kernel)
set_option maxRecDepth 20000 in
theorem inT_wsL_law0_r3 : ∀ w ∈ wsL_law0_r3, w ∈ lw_tbl := mem_r _ [123, 124, 125, 126, 619, 620, 621, 622, 623, 624, 625, 626, 627, 628, 629, 630, 631, 632, 633, 634, 635, 636, 637, 638] (by decide +kernel)
set_option maxRecDepth 20000 in
theorem inT_wsL_law0_r4 : ∀ w ∈ wsL_law0_r4, w ∈ lw_tbl := mem_r _ [639, 640, 641, 642, 643, 644, 645, 170, 171, 172, 173, 174, 175, 176, 177, 178, 179, 180, 93, 81, 181, 182, 183, 184] (by decide +kernel)
set_option maxRecDepth 20000 in
theorem inT_wsL_law0_r5 : ∀ w ∈ wsL_law0_r5, w ∈ lw_tbl := mem_r _ [697, 698, 699, 700, 185, 186, 187, 188, 88, 189, 190, 191, 192, 193, 194, 195, 196, 197, 198, 199, 200, 201, 202, 203] (by decide +kernel)
set_option maxRecDepth 20000 in
theorem inT_wsL_law0_r6 : ∀ w ∈ wsL_law0_r6, w ∈ lw_tbl := mem_r _ [204, 205, 206, 207, 701, 702, 703, 704, 705, 707, 25, 708, 208, 209, 210, 211, 212, 214, 0, 215, 216, 217, 218, 709] (by decide +kernel)
set_option maxRecDepth 20000 in
theorem inT_wsL_law0_r7 : ∀ w ∈ wsL_law0_r7, w ∈ lw_tbl := mem_r _ [710, 711, 712, 219, 220, 221, 222, 223, 225, 1, 226, 143, 227, 229, 2, 230, 231, 233, 3, 234, 245, 235, 237, 4] (by decide +kernel)
set_option maxRecDepth 20000 in
theorem inT_wsL_law0_r8 : ∀ w ∈ wsL_law0_r8, w ∈ lw_tbl := mem_r _ [238, 239, 58, 240, 241, 242, 243, 244, 246, 279, 280, 281, 282, 248, 250, 253, 256, 258, 260, 283, 284, 59, 285, 286] (by decide +kernel)
set_option maxRecDepth 20000 in
theorem inT_wsL_law0_r9 : ∀ w ∈ wsL_law0_r9, w ∈ lw_tbl := mem_r _ [288, 5, 289, 255, 249, 251, 290, 291, 292, 293, 254, 252, 294, 295, 296, 297, 299, 300, 301, 302, 303, 304, 305, 306] (by decide +kernel)
