set_option maxRecDepth 20000 in
theorem ggX3_bookChanges_X2_isFree : GoodIn wsX3_bookChanges wsX2_isFree := goodIn_r _ [81, 33, 34, 109, 110, 111, 112, 113, 114, 115, 116, 117, 118] (by decide +kernel) (by decide +kernel)
set_option maxRecDepth 20000 in
theorem gX3_bookChanges_X2_isFree : GoodIn wsX3_bookChanges (wsV RX3 90 RX2 yX2_isFree wsX2_isFree) := goodIn_app (goodIn_of _ (by decide +kernel)) ggX3_bookChanges_X2_isFree
set_option maxRecDepth 20000 in
theorem ggX3_bookChanges_X2_longestFree : GoodIn wsX3_bookChanges wsX2_longestFree := goodIn_r _ [26, 27, 28, 29, 30, 31, 25, 32, 33, 34, 35, 36, 37, 38, 39, 40, 41, 42, 109, 110, 111, 112, 113, 114, 115, 116, 117, 118] (by decide +kernel) (by decide +kernel)
set_option maxRecDepth 20000 in
theorem gX3_bookChanges_X2_longestFree : GoodIn wsX3_bookChanges (wsV RX3 124 RX2 yX2_longestFree wsX2_longestFree) := goodIn_app (goodIn_of _ (by decide +kernel)) ggX3_bookChanges_X2_longestFree
set_option maxRecDepth 20000 in
theorem ggX3_bookChanges_X3_sit : GoodIn wsX3_bookChanges wsX3_sit := goodIn_r _ [85, 2, 86, 87, 88, 89, 51, 90, 60, 75, 76, 7, 77, 99, 100, 101, 102, 103, 104, 105, 106, 107, 108, 109, 110, 111, 112, 113, 114, 115, 116, 117, 118, 91, 92, 93, 94, 95, 96, 97, 98] (by decide +kernel) (by decide +kernel)
set_option maxRecDepth 20000 in
theorem gX3_bookChanges_X3_sit : GoodIn wsX3_bookChanges (wsV RX3 127 RX3 yX3_sit wsX3_sit) := goodIn_app (goodIn_of _ (by decide +kernel)) ggX3_bookChanges_X3_sit
set_option maxRecDepth 20000 in
theorem ggX3_wish_X3_isLiving : GoodIn wsX3_wish wsX3_isLiving := goodIn_r _ [11, 12, 1, 13, 14, 15, 16, 17, 18, 120, 121, 122, 123, 124, 125, 126, 127, 128, 129, 130, 131, 132, 133, 134, 135, 136, 137] (by decide +kernel) (by decide +kernel)
set_option maxRecDepth 20000 in
theorem gX3_wish_X3_isLiving : GoodIn wsX3_wish (wsV RX3 134 RX3 yX3_isLiving wsX3_isLiving) := goodIn_app (goodIn_of _ (by decide +kernel)) ggX3_wish_X3_isLiving
set_option maxRecDepth 20000 in
theorem ggX3_wish_X3_isMask : GoodIn wsX3_wish wsX3_isMask := goodIn_r _ [21] (by decide +kernel) (by decide +kernel)
set_option maxRecDepth 20000 in
theorem gX3_wish_X3_isMask : GoodIn wsX3_wish (va_wsS RX3 64 yX3_isMask wsX3_isMask) := goodIn_app (goodIn_of _ (by decide +kernel)) ggX3_wish_X3_isMask
set_option maxRecDepth 20000 in
theorem ggX3_wish_X1_oneSeat : GoodIn wsX3_wish wsX1_oneSeat := goodIn_r _ [25, 26, 27, 130, 131, 132, 133, 134, 135, 136, 137] (by decide +kernel) (by decide +kernel)
set_option maxRecDepth 20000 in
theorem gX3_wish_X1_oneSeat : GoodIn wsX3_wish (wsV RX3 137 RX1 yX1_oneSeat wsX1_oneSeat) := goodIn_app (goodIn_of _ (by decide +kernel)) ggX3_wish_X1_oneSeat
set_option maxRecDepth 20000 in
theorem ggX3_wish_X3_leave : GoodIn wsX3_wish wsX3_leave := goodIn_r _ [31, 32, 5, 33, 34, 35, 10, 36, 37, 38, 39, 16, 40, 26, 130, 131, 132, 133, 134, 135, 136, 137, 120, 121, 122, 123, 124, 125, 126, 127, 128, 129, 138, 139, 140, 141, 142, 143, 144, 145, 146, 147] (by decide +kernel) (by decide +kernel)
set_option maxRecDepth 20000 in
theorem gX3_wish_X3_leave : GoodIn wsX3_wish (wsV RX3 147 RX3 yX3_leave wsX3_leave) := goodIn_app (goodIn_of _ (by decide +kernel)) ggX3_wish_X3_leave
set_option maxRecDepth 20000 in
theorem ggX3_wish_X2_lowestFree : GoodIn wsX3_wish wsX2_lowestFree := goodIn_r _ [45, 46, 47, 48, 49, 50, 16, 51, 27, 52, 35, 10, 36, 53, 54, 55, 44, 56, 57, 58, 59, 60, 61, 62, 63, 64, 138, 139, 140, 141, 142, 143, 144, 145, 146, 147, 130, 131, 132, 133, 134, 135, 136, 137] (by decide +kernel) (by decide +kernel)
set_option maxRecDepth 20000 in
theorem gX3_wish_X2_lowestFree : GoodIn wsX3_wish (wsV RX3 151 RX2 yX2_lowestFree wsX2_lowestFree) := goodIn_app (goodIn_of _ (by decide +kernel)) ggX3_wish_X2_lowestFree
set_option maxRecDepth 20000 in
theorem ggX3_wish_X3_clearForWish : GoodIn wsX3_wish wsX3_clearForWish := goodIn_r _ [68, 69, 5, 33, 70, 71, 72, 73, 74, 75, 76, 77, 78, 10, 79, 80, 12, 1, 3, 2, 81, 82, 54, 55, 44, 56, 57, 58, 83, 84, 85, 86, 22, 23, 24, 16, 25, 26, 27, 87, 49, 50, 51, 52, 35, 36, 88, 60, 61, 62, 63, 64, 89, 90, 91, 92, 93, 94, 95, 96, 97, 46, 47, 98, 48, 59, 99, 100, 101, 102, 103, 104, 105, 106, 107, 108, 109, 110, 111, 112, 113, 114, 115, 4, 37, 38, 39, 40, 130, 131, 132, 133, 134, 135, 136, 137, 120, 121, 122, 123, 124, 125, 126, 127, 128, 129, 138, 139, 140, 141, 142, 143, 144, 145, 146, 147] (by decide +kernel) (by decide +kernel)
set_option maxRecDepth 20000 in
theorem gX3_wish_X3_clearForWish : GoodIn wsX3_wish (wsV RX3 155 RX3 yX3_clearForWish wsX3_clearForWish) := goodIn_app (goodIn_of _ (by decide +kernel)) ggX3_wish_X3_clearForWish
set_option maxRecDepth 20000 in
theorem ggX3_wish_X3_sit : GoodIn wsX3_wish wsX3_sit := goodIn_r _ [119, 5, 33, 37, 38, 39, 16, 40, 26, 34, 35, 10, 36, 120, 121, 122, 123, 124, 125, 126, 127, 128, 129, 138, 139, 140, 141, 142, 143, 144, 145, 146, 147, 130, 131, 132, 133, 134, 135, 136, 137] (by decide +kernel) (by decide +kernel)
set_option maxRecDepth 20000 in
theorem gX3_wish_X3_sit : GoodIn wsX3_wish (wsV RX3 127 RX3 yX3_sit wsX3_sit) := goodIn_app (goodIn_of _ (by decide +kernel)) ggX3_wish_X3_sit
set_option maxRecDepth 20000 in
theorem ggX3_print_X3_isLiving : GoodIn wsX3_print wsX3_isLiving := goodIn_r _ [8, 9, 1, 10, 11, 12, 13, 14, 15, 16, 17, 18, 19, 20, 21, 22, 23, 24, 25, 26, 27, 28, 29, 30, 31, 32, 33] (by decide +kernel) (by decide +kernel)
set_option maxRecDepth 20000 in
theorem gX3_print_X3_isLiving : GoodIn wsX3_print (wsV RX3 134 RX3 yX3_isLiving wsX3_isLiving) := goodIn_app (goodIn_of _ (by decide +kernel)) ggX3_print_X3_isLiving
set_option maxRecDepth 20000 in
theorem ggX3_cancel_X3_isLiving : GoodIn wsX3_cancel wsX3_isLiving := goodIn_r _ [9, 10, 1, 11, 12, 13, 14, 15, 16, 32, 33, 34, 35, 36, 37, 38, 39, 40, 41, 42, 43, 44, 45, 46, 47, 48, 49] (by decide +kernel) (by decide +kernel)
set_option maxRecDepth 20000 in
theorem gX3_cancel_X3_isLiving : GoodIn wsX3_cancel (wsV RX3 134 RX3 yX3_isLiving wsX3_isLiving) := goodIn_app (goodIn_of _ (by decide +kernel)) ggX3_cancel_X3_isLiving
set_option maxRecDepth 20000 in
theorem ggX3_cancel_X3_leave : GoodIn wsX3_cancel wsX3_leave := goodIn_r _ [20, 21, 22, 23, 24, 25, 8, 26, 27, 28, 29, 14, 30, 31, 42, 43, 44, 45, 46, 47, 48, 49, 32, 33, 34, 35, 36, 37, 38, 39, 40, 41, 50, 51, 52, 53, 54, 55, 56, 57, 58, 59] (by decide +kernel) (by decide +kernel)
set_option maxRecDepth 20000 in
theorem gX3_cancel_X3_leave : GoodIn wsX3_cancel (wsV RX3 147 RX3 yX3_leave wsX3_leave) := goodIn_app (goodIn_of _ (by decide +kernel)) ggX3_cancel_X3_leave
set_option maxRecDepth 20000 in
theorem ggX3_shorten_X3_isLiving : GoodIn wsX3_shorten wsX3_isLiving := goodIn_r _ [9, 10, 1, 11, 12, 13, 14, 15, 16, 32, 33, 34, 35, 36, 37, 38, 39, 40, 41, 42, 43, 44, 45, 46, 47, 48, 49] (by decide +kernel) (by decide +kernel)
set_option maxRecDepth 20000 in
theorem gX3_shorten_X3_isLiving : GoodIn wsX3_shorten (wsV RX3 134 RX3 yX3_isLiving wsX3_isLiving) := goodIn_app (goodIn_of _ (by decide +kernel)) ggX3_shorten_X3_isLiving
set_option maxRecDepth 20000 in
theorem ggX3_shorten_X3_leave : GoodIn wsX3_shorten wsX3_leave := goodIn_r _ [20, 21, 22, 23, 24, 25, 8, 26, 27, 28, 29, 14, 30, 31, 42, 43, 44, 45, 46, 47, 48, 49, 32, 33, 34, 35, 36, 37, 38, 39, 40, 41, 50, 51, 52, 53, 54, 55, 56, 57, 58, 59] (by decide +kernel) (by decide +kernel)
set_option maxRecDepth 20000 in
theorem gX3_shorten_X3_leave : GoodIn wsX3_shorten (wsV RX3 147 RX3 yX3_leave wsX3_leave) := goodIn_app (goodIn_of _ (by decide +kernel)) ggX3_shorten_X3_leave
set_option maxRecDepth 20000 in
theorem ggX3_seatOf_X3_isLiving : GoodIn wsX3_seatOf wsX3_isLiving := goodIn_r _ [9, 10, 1, 11, 12, 13, 14, 15, 16, 23, 24, 25, 26, 27, 28, 29, 30, 31, 32, 33, 34, 35, 36, 37, 38, 39, 40] (by decide +kernel) (by decide +kernel)
set_option maxRecDepth 20000 in
theorem gX3_seatOf_X3_isLiving : GoodIn wsX3_seatOf (wsV RX3 134 RX3 yX3_isLiving wsX3_isLiving) := goodIn_app (goodIn_of _ (by decide +kernel)) ggX3_seatOf_X3_isLiving
set_option maxRecDepth 20000 in
theorem ggX3_seatOf_X1_goesOn : GoodIn wsX3_seatOf wsX1_goesOn := goodIn_r _ [20, 21, 22, 33, 34, 35, 36, 37, 38, 39, 40] (by decide +kernel) (by decide +kernel)
set_option maxRecDepth 20000 in
theorem gX3_seatOf_X1_goesOn : GoodIn wsX3_seatOf (wsV RX3 165 RX1 yX1_goesOn wsX1_goesOn) := goodIn_app (goodIn_of _ (by decide +kernel)) ggX3_seatOf_X1_goesOn
set_option maxRecDepth 20000 in
theorem ggX3_block_X2_find : GoodIn wsX3_block wsX2_find := goodIn_r _ [10, 11, 12, 13, 14, 9, 15, 16, 17, 18, 19, 20, 21, 22, 23, 24, 25, 151, 152, 153, 154, 155, 156, 157, 158, 159, 160] (by decide +kernel) (by decide +kernel)
set_option maxRecDepth 20000 in
theorem gX3_block_X2_find : GoodIn wsX3_block (wsV RX3 61 RX2 yX2_find wsX2_find) := goodIn_app (goodIn_of _ (by decide +kernel)) ggX3_block_X2_find
set_option maxRecDepth 20000 in
theorem ggX3_block_X3_isWay : GoodIn wsX3_block wsX3_isWay := goodIn_r _ [30, 31, 141, 142, 143, 144, 145, 146, 147, 148, 149, 150] (by decide +kernel) (by decide +kernel)
set_option maxRecDepth 20000 in
theorem gX3_block_X3_isWay : GoodIn wsX3_block (wsV RX3 111 RX3 yX3_isWay wsX3_isWay) := goodIn_app (goodIn_of _ (by decide +kernel)) ggX3_block_X3_isWay
set_option maxRecDepth 20000 in
theorem ggX3_block_X0_isFull : GoodIn wsX3_block wsX0_isFull := goodIn_r _ [36, 37, 161, 162, 163] (by decide +kernel) (by decide +kernel)
set_option maxRecDepth 20000 in
theorem gX3_block_X0_isFull : GoodIn wsX3_block (wsV RX3 171 RX0 yX0_isFull wsX0_isFull) := goodIn_app (goodIn_of _ (by decide +kernel)) ggX3_block_X0_isFull
set_option maxRecDepth 20000 in
theorem ggX3_block_X3_isFixedRideOn : GoodIn wsX3_block wsX3_isFixedRideOn := goodIn_r _ [41, 42, 43, 44, 45, 141, 142, 143, 144, 145, 146, 147, 148, 149, 150, 164, 165, 166, 167, 168, 169, 170, 171] (by decide +kernel) (by decide +kernel)
set_option maxRecDepth 20000 in
theorem gX3_block_X3_isFixedRideOn : GoodIn wsX3_block (wsV RX3 175 RX3 yX3_isFixedRideOn wsX3_isFixedRideOn) := goodIn_app (goodIn_of _ (by decide +kernel)) ggX3_block_X3_isFixedRideOn
set_option maxRecDepth 20000 in
theorem ggX3_block_X3_way : GoodIn wsX3_block wsX3_way := goodIn_r _ [48] (by decide +kernel) (by decide +kernel)
set_option maxRecDepth 20000 in
theorem gX3_block_X3_way : GoodIn wsX3_block (va_wsS RX3 87 yX3_way wsX3_way) := goodIn_app (goodIn_of _ (by decide +kernel)) ggX3_block_X3_way
set_option maxRecDepth 20000 in
theorem ggX3_block_X0_add : GoodIn wsX3_block wsX0_add := goodIn_r _ [52, 53, 37, 54, 161, 162, 163] (by decide +kernel) (by decide +kernel)
set_option maxRecDepth 20000 in
theorem gX3_block_X0_add : GoodIn wsX3_block (wsV RX3 181 RX0 yX0_add wsX0_add) := goodIn_app (goodIn_of _ (by decide +kernel)) ggX3_block_X0_add
set_option maxRecDepth 20000 in
theorem ggX3_block_X0_keptOf : GoodIn wsX3_block wsX0_keptOf := goodIn_r _ [58, 37, 53, 54, 161, 162, 163] (by decide +kernel) (by decide +kernel)
set_option maxRecDepth 20000 in
theorem gX3_block_X0_keptOf : GoodIn wsX3_block (wsV RX3 188 RX0 yX0_keptOf wsX0_keptOf) := goodIn_app (goodIn_of _ (by decide +kernel)) ggX3_block_X0_keptOf
set_option maxRecDepth 20000 in
theorem ggX3_block_X3_sweep : GoodIn wsX3_block wsX3_sweep := goodIn_r _ [62, 1, 3, 63, 64, 65, 66, 67, 68, 69, 70, 29, 71, 31, 42, 43, 72, 44, 73, 74, 75, 76, 77, 78, 79, 80, 81, 82, 83, 84, 85, 86, 87, 88, 89, 90, 47, 48, 91, 92, 93, 94, 95, 96, 97, 98, 9, 99, 100, 101, 102, 103, 104, 105, 106, 107, 108, 109, 110, 111, 112, 113, 114, 115, 116, 117, 118, 119, 120, 121, 122, 123, 124, 125, 126, 127, 128, 129, 130, 131, 132, 141, 142, 143, 144, 145, 146, 147, 148, 149, 150, 151, 152, 153, 154, 155, 156, 157, 158, 159, 160, 164, 165, 166, 167, 168, 169, 170, 171] (by decide +kernel) (by decide +kernel)
set_option maxRecDepth 20000 in
theorem gX3_block_X3_sweep : GoodIn wsX3_block (wsV RX3 194 RX3 yX3_sweep wsX3_sweep) := goodIn_app (goodIn_of _ (by decide +kernel)) ggX3_block_X3_sweep
set_option maxRecDepth 20000 in
theorem ggX3_block_X0_remove : GoodIn wsX3_block wsX0_remove := goodIn_r _ [136, 37, 53, 54, 137, 138, 139, 35, 140, 161, 162, 163] (by decide +kernel) (by decide +kernel)
set_option maxRecDepth 20000 in
theorem gX3_block_X0_remove : GoodIn wsX3_block (wsV RX3 198 RX0 yX0_remove wsX0_remove) := goodIn_app (goodIn_of _ (by decide +kernel)) ggX3_block_X0_remove
set_option maxRecDepth 20000 in
theorem ggX3_unblock_X2_find : GoodIn wsX3_unblock wsX2_find := goodIn_r _ [8, 9, 10, 11, 12, 7, 13, 14, 15, 16, 17, 18, 19, 20, 21, 22, 23, 59, 60, 61, 62, 63, 64, 65, 66, 67, 68] (by decide +kernel) (by decide +kernel)
set_option maxRecDepth 20000 in
theorem gX3_unblock_X2_find : GoodIn wsX3_unblock (wsV RX3 61 RX2 yX2_find wsX2_find) := goodIn_app (goodIn_of _ (by decide +kernel)) ggX3_unblock_X2_find
set_option maxRecDepth 20000 in
theorem ggX3_unblock_X3_isWay : GoodIn wsX3_unblock wsX3_isWay := goodIn_r _ [28, 29, 49, 50, 51, 52, 53, 54, 55, 56, 57, 58] (by decide +kernel) (by decide +kernel)
set_option maxRecDepth 20000 in
theorem gX3_unblock_X3_isWay : GoodIn wsX3_unblock (wsV RX3 111 RX3 yX3_isWay wsX3_isWay) := goodIn_app (goodIn_of _ (by decide +kernel)) ggX3_unblock_X3_isWay
set_option maxRecDepth 20000 in
theorem ggX3_unblock_X3_way : GoodIn wsX3_unblock wsX3_way := goodIn_r _ [32] (by decide +kernel) (by decide +kernel)
set_option maxRecDepth 20000 in
theorem gX3_unblock_X3_way : GoodIn wsX3_unblock (va_wsS RX3 87 yX3_way wsX3_way) := goodIn_app (goodIn_of _ (by decide +kernel)) ggX3_unblock_X3_way
set_option maxRecDepth 20000 in
theorem ggX3_unblock_X0_remove : GoodIn wsX3_unblock wsX0_remove := goodIn_r _ [37, 38, 39, 40, 41, 42, 43, 36, 44, 69, 70, 71] (by decide +kernel) (by decide +kernel)
set_option maxRecDepth 20000 in
theorem gX3_unblock_X0_remove : GoodIn wsX3_unblock (wsV RX3 198 RX0 yX0_remove wsX0_remove) := goodIn_app (goodIn_of _ (by decide +kernel)) ggX3_unblock_X0_remove
set_option maxRecDepth 20000 in
theorem ggX3_unblock_X0_keptOf : GoodIn wsX3_unblock wsX0_keptOf := goodIn_r _ [48, 38, 39, 40, 69, 70, 71] (by decide +kernel) (by decide +kernel)
set_option maxRecDepth 20000 in
theorem gX3_unblock_X0_keptOf : GoodIn wsX3_unblock (wsV RX3 188 RX0 yX0_keptOf wsX0_keptOf) := goodIn_app (goodIn_of _ (by decide +kernel)) ggX3_unblock_X0_keptOf
set_option maxRecDepth 20000 in
theorem ggX3_removeCoach_X2_isThere : GoodIn wsX3_removeCoach wsX2_isThere := goodIn_r _ [13, 14, 15, 158, 159, 160, 161, 162, 163, 164, 165, 166, 167] (by decide +kernel) (by decide +kernel)
set_option maxRecDepth 20000 in
theorem gX3_removeCoach_X2_isThere : GoodIn wsX3_removeCoach (wsV RX3 201 RX2 yX2_isThere wsX2_isThere) := goodIn_app (goodIn_of _ (by decide +kernel)) ggX3_removeCoach_X2_isThere
set_option maxRecDepth 20000 in
theorem ggX3_removeCoach_X3_hasSeatIn : GoodIn wsX3_removeCoach wsX3_hasSeatIn := goodIn_r _ [20, 4, 5, 21, 1, 22, 23, 24, 12, 25, 26, 27, 28, 29, 30, 150, 151, 152, 153, 154, 155, 156, 157, 140, 141, 142, 143, 144, 145, 146, 147, 148, 149, 158, 159, 160, 161, 162, 163, 164, 165, 166, 167] (by decide +kernel) (by decide +kernel)
set_option maxRecDepth 20000 in
theorem gX3_removeCoach_X3_hasSeatIn : GoodIn wsX3_removeCoach (wsV RX3 204 RX3 yX3_hasSeatIn wsX3_hasSeatIn) := goodIn_app (goodIn_of _ (by decide +kernel)) ggX3_removeCoach_X3_hasSeatIn
set_option maxRecDepth 20000 in
theorem ggX3_removeCoach_X3_leave : GoodIn wsX3_removeCoach wsX3_leave := goodIn_r _ [34, 21, 1, 35, 36, 37, 19, 38, 39, 40, 41, 42, 43, 44, 150, 151, 152, 153, 154, 155, 156, 157, 140, 141, 142, 143, 144, 145, 146, 147, 148, 149, 158, 159, 160, 161, 162, 163, 164, 165, 166, 167] (by decide +kernel) (by decide +kernel)
set_option maxRecDepth 20000 in
theorem gX3_removeCoach_X3_leave : GoodIn wsX3_removeCoach (wsV RX3 147 RX3 yX3_leave wsX3_leave) := goodIn_app (goodIn_of _ (by decide +kernel)) ggX3_removeCoach_X3_leave
set_option maxRecDepth 20000 in
theorem ggX3_removeCoach_X2_firstOf : GoodIn wsX3_removeCoach wsX2_firstOf := goodIn_r _ [25, 26, 158, 159, 160, 161, 162, 163, 164, 165, 166, 167] (by decide +kernel) (by decide +kernel)
set_option maxRecDepth 20000 in
theorem gX3_removeCoach_X2_firstOf : GoodIn wsX3_removeCoach (wsV RX3 104 RX2 yX2_firstOf wsX2_firstOf) := goodIn_app (goodIn_of _ (by decide +kernel)) ggX3_removeCoach_X2_firstOf
set_option maxRecDepth 20000 in
theorem ggX3_removeCoach_X2_endOf : GoodIn wsX3_removeCoach wsX2_endOf := goodIn_r _ [30, 26, 158, 159, 160, 161, 162, 163, 164, 165, 166, 167] (by decide +kernel) (by decide +kernel)
set_option maxRecDepth 20000 in
theorem gX3_removeCoach_X2_endOf : GoodIn wsX3_removeCoach (wsV RX3 108 RX2 yX2_endOf wsX2_endOf) := goodIn_app (goodIn_of _ (by decide +kernel)) ggX3_removeCoach_X2_endOf
set_option maxRecDepth 20000 in
theorem ggX3_removeCoach_X0_removeAll : GoodIn wsX3_removeCoach wsX0_removeAll := goodIn_r _ [49, 50, 51, 52, 53, 54, 48, 55, 56, 168, 169, 170] (by decide +kernel) (by decide +kernel)
set_option maxRecDepth 20000 in
theorem gX3_removeCoach_X0_removeAll : GoodIn wsX3_removeCoach (wsV RX3 208 RX0 yX0_removeAll wsX0_removeAll) := goodIn_app (goodIn_of _ (by decide +kernel)) ggX3_removeCoach_X0_removeAll
set_option maxRecDepth 20000 in
theorem ggX3_removeCoach_X2_dropCoach : GoodIn wsX3_removeCoach wsX2_dropCoach := goodIn_r _ [60, 15, 26, 61, 158, 159, 160, 161, 162, 163, 164, 165, 166, 167] (by decide +kernel) (by decide +kernel)
set_option maxRecDepth 20000 in
theorem gX3_removeCoach_X2_dropCoach : GoodIn wsX3_removeCoach (wsV RX3 211 RX2 yX2_dropCoach wsX2_dropCoach) := goodIn_app (goodIn_of _ (by decide +kernel)) ggX3_removeCoach_X2_dropCoach
set_option maxRecDepth 20000 in
theorem ggX3_removeCoach_X3_seatAnew : GoodIn wsX3_removeCoach wsX3_seatAnew := goodIn_r _ [65, 2, 3, 7, 66, 67, 68, 19, 69, 1, 70, 4, 5, 71, 72, 73, 12, 74, 75, 61, 76, 77, 78, 79, 80, 42, 81, 82, 83, 37, 38, 84, 85, 86, 87, 88, 89, 90, 91, 92, 93, 94, 95, 96, 97, 98, 99, 100, 101, 102, 103, 104, 105, 35, 106, 107, 108, 109, 110, 111, 112, 113, 114, 115, 116, 117, 118, 119, 120, 121, 122, 123, 124, 44, 125, 126, 127, 128, 129, 130, 131, 132, 133, 134, 135, 39, 40, 41, 43, 136, 137, 138, 139, 36, 140, 141, 142, 143, 144, 145, 146, 147, 148, 149, 150, 151, 152, 153, 154, 155, 156, 157, 158, 159, 160, 161, 162, 163, 164, 165, 166, 167] (by decide +kernel) (by decide +kernel)
set_option maxRecDepth 20000 in
theorem gX3_removeCoach_X3_seatAnew : GoodIn wsX3_removeCoach (wsV RX3 214 RX3 yX3_seatAnew wsX3_seatAnew) := goodIn_app (goodIn_of _ (by decide +kernel)) ggX3_removeCoach_X3_seatAnew
set_option maxRecDepth 20000 in
theorem ggX3_load_X3_isStretch : GoodIn wsX3_load wsX3_isStretch := goodIn_r _ [5, 6, 29, 30, 31, 32, 33, 34, 35, 36, 37, 38] (by decide +kernel) (by decide +kernel)
set_option maxRecDepth 20000 in
theorem gX3_load_X3_isStretch : GoodIn wsX3_load (wsV RX3 70 RX3 yX3_isStretch wsX3_isStretch) := goodIn_app (goodIn_of _ (by decide +kernel)) ggX3_load_X3_isStretch
set_option maxRecDepth 20000 in
theorem ggX3_load_X3_isClass : GoodIn wsX3_load wsX3_isClass := goodIn_r _ [9] (by decide +kernel) (by decide +kernel)
set_option maxRecDepth 20000 in
theorem gX3_load_X3_isClass : GoodIn wsX3_load (va_wsS RX3 50 yX3_isClass wsX3_isClass) := goodIn_app (goodIn_of _ (by decide +kernel)) ggX3_load_X3_isClass
set_option maxRecDepth 20000 in
theorem ggX3_free_X3_isStretch : GoodIn wsX3_free wsX3_isStretch := goodIn_r _ [6, 7, 27, 28, 29, 30, 31, 32, 33, 34, 35, 36] (by decide +kernel) (by decide +kernel)
set_option maxRecDepth 20000 in
theorem gX3_free_X3_isStretch : GoodIn wsX3_free (wsV RX3 70 RX3 yX3_isStretch wsX3_isStretch) := goodIn_app (goodIn_of _ (by decide +kernel)) ggX3_free_X3_isStretch
set_option maxRecDepth 20000 in
theorem ggX3_free_X3_isClass : GoodIn wsX3_free wsX3_isClass := goodIn_r _ [10] (by decide +kernel) (by decide +kernel)
set_option maxRecDepth 20000 in
theorem gX3_free_X3_isClass : GoodIn wsX3_free (va_wsS RX3 50 yX3_isClass wsX3_isClass) := goodIn_app (goodIn_of _ (by decide +kernel)) ggX3_free_X3_isClass
set_option maxRecDepth 20000 in
theorem ggX3_free_X3_way : GoodIn wsX3_free wsX3_way := goodIn_r _ [13] (by decide +kernel) (by decide +kernel)
set_option maxRecDepth 20000 in
theorem gX3_free_X3_way : GoodIn wsX3_free (va_wsS RX3 87 yX3_way wsX3_way) := goodIn_app (goodIn_of _ (by decide +kernel)) ggX3_free_X3_way
set_option maxRecDepth 20000 in
theorem ggX3_free_X2_countFree : GoodIn wsX3_free wsX2_countFree := goodIn_r _ [18, 19, 20, 21, 22, 23, 17, 24, 25, 26, 37, 38, 39, 40, 41, 42, 43, 44, 45, 46] (by decide +kernel) (by decide +kernel)
set_option maxRecDepth 20000 in
theorem gX3_free_X2_countFree : GoodIn wsX3_free (wsV RX3 220 RX2 yX2_countFree wsX2_countFree) := goodIn_app (goodIn_of _ (by decide +kernel)) ggX3_free_X2_countFree
set_option maxRecDepth 20000 in
theorem ggX3_manifest_X1_isAlive : GoodIn wsX3_manifest wsX1_isAlive := goodIn_r _ [9, 10, 21, 22, 23, 24, 25, 26, 27, 28] (by decide +kernel) (by decide +kernel)
set_option maxRecDepth 20000 in
theorem gX3_manifest_X1_isAlive : GoodIn wsX3_manifest (wsV RX3 226 RX1 yX1_isAlive wsX1_isAlive) := goodIn_app (goodIn_of _ (by decide +kernel)) ggX3_manifest_X1_isAlive
set_option maxRecDepth 20000 in
theorem ggX3_isLiving_X1_isAlive : GoodIn wsX3_isLiving wsX1_isAlive := goodIn_r _ [7, 8, 19, 20, 21, 22, 23, 24, 25, 26] (by decide +kernel) (by decide +kernel)
set_option maxRecDepth 20000 in
theorem gX3_isLiving_X1_isAlive : GoodIn wsX3_isLiving (wsV RX3 226 RX1 yX1_isAlive wsX1_isAlive) := goodIn_app (goodIn_of _ (by decide +kernel)) ggX3_isLiving_X1_isAlive
set_option maxRecDepth 20000 in
theorem ggX3_canBook_X3_isWay : GoodIn wsX3_canBook wsX3_isWay := goodIn_r _ [6, 7, 8, 9, 10, 11, 12, 13, 14, 15, 16, 17] (by decide +kernel) (by decide +kernel)
set_option maxRecDepth 20000 in
theorem gX3_canBook_X3_isWay : GoodIn wsX3_canBook (wsV RX3 111 RX3 yX3_isWay wsX3_isWay) := goodIn_app (goodIn_of _ (by decide +kernel)) ggX3_canBook_X3_isWay
set_option maxRecDepth 20000 in
theorem ggX3_bookMovable_X3_enter : GoodIn wsX3_bookMovable wsX3_enter := goodIn_r _ [7, 8, 2, 9, 10, 11, 12, 13, 14, 15, 16, 17, 18, 19, 20, 21, 22, 23, 24, 25, 26, 27, 28, 29, 30, 31, 32, 33, 34, 35, 153, 154, 155, 156, 157, 158, 159, 160, 161, 162, 145, 146, 147, 148, 149, 150, 151, 152] (by decide +kernel) (by decide +kernel)
set_option maxRecDepth 20000 in
theorem gX3_bookMovable_X3_enter : GoodIn wsX3_bookMovable (wsV RX3 117 RX3 yX3_enter wsX3_enter) := goodIn_app (goodIn_of _ (by decide +kernel)) ggX3_bookMovable_X3_enter
set_option maxRecDepth 20000 in
theorem ggX3_bookMovable_X3_place : GoodIn wsX3_bookMovable wsX3_place := goodIn_r _ [39, 40, 41, 42, 43, 44, 45, 46, 47, 48, 49, 50, 51, 52, 53, 54, 55, 11, 56, 26, 27, 57, 6, 58, 59, 60, 61, 62, 63, 64, 65, 66, 67, 68, 69, 70, 71, 72, 73, 74, 75, 76, 77, 78, 79, 80, 81, 82, 83, 84, 85, 86, 87, 88, 89, 90, 12, 2, 8, 91, 92, 93, 94, 95, 96, 97, 98, 99, 100, 21, 101, 102, 103, 104, 105, 106, 107, 108, 109, 110, 111, 112, 113, 114, 115, 116, 117, 118, 119, 120, 153, 154, 155, 156, 157, 158, 159, 160, 161, 162, 145, 146, 147, 148, 149, 150, 151, 152, 163, 164, 165, 166, 167, 168, 169, 170, 171, 172] (by decide +kernel) (by decide +kernel)
set_option maxRecDepth 20000 in
theorem gX3_bookMovable_X3_place : GoodIn wsX3_bookMovable (wsV RX3 246 RX3 yX3_place wsX3_place) := goodIn_app (goodIn_of _ (by decide +kernel)) ggX3_bookMovable_X3_place
set_option maxRecDepth 20000 in
theorem ggX3_bookMovable_X3_hasRoomByLoad : GoodIn wsX3_bookMovable wsX3_hasRoomByLoad := goodIn_r _ [124, 40, 125, 126, 127, 47, 128, 129, 130, 131, 132, 49, 50, 59, 60, 61, 62, 63, 64, 133, 134, 135, 6, 136, 2, 8, 41, 137, 138, 139, 11, 140, 30, 141, 142, 143, 144, 26, 27, 153, 154, 155, 156, 157, 158, 159, 160, 161, 162, 163, 164, 165, 166, 167, 168, 169, 170, 171, 172, 145, 146, 147, 148, 149, 150, 151, 152] (by decide +kernel) (by decide +kernel)
set_option maxRecDepth 20000 in
theorem gX3_bookMovable_X3_hasRoomByLoad : GoodIn wsX3_bookMovable (wsV RX3 250 RX3 yX3_hasRoomByLoad wsX3_hasRoomByLoad) := goodIn_app (goodIn_of _ (by decide +kernel)) ggX3_bookMovable_X3_hasRoomByLoad
set_option maxRecDepth 20000 in
theorem ggX3_bookFixed_X3_enter : GoodIn wsX3_bookFixed wsX3_enter := goodIn_r _ [9, 10, 11, 12, 13, 14, 15, 16, 17, 18, 19, 20, 21, 22, 23, 24, 25, 26, 27, 28, 29, 30, 31, 32, 33, 34, 35, 36, 37, 38, 51, 52, 53, 54, 55, 56, 57, 58, 59, 60, 71, 72, 73, 74, 75, 76, 77, 78] (by decide +kernel) (by decide +kernel)
set_option maxRecDepth 20000 in
theorem gX3_bookFixed_X3_enter : GoodIn wsX3_bookFixed (wsV RX3 117 RX3 yX3_enter wsX3_enter) := goodIn_app (goodIn_of _ (by decide +kernel)) ggX3_bookFixed_X3_enter
set_option maxRecDepth 20000 in
theorem ggX3_bookFixed_X3_sit : GoodIn wsX3_bookFixed wsX3_sit := goodIn_r _ [42, 1, 43, 44, 45, 46, 14, 47, 24, 48, 49, 8, 50, 51, 52, 53, 54, 55, 56, 57, 58, 59, 60, 61, 62, 63, 64, 65, 66, 67, 68, 69, 70, 71, 72, 73, 74, 75, 76, 77, 78] (by decide +kernel) (by decide +kernel)
set_option maxRecDepth 20000 in
theorem gX3_bookFixed_X3_sit : GoodIn wsX3_bookFixed (wsV RX3 127 RX3 yX3_sit wsX3_sit) := goodIn_app (goodIn_of _ (by decide +kernel)) ggX3_bookFixed_X3_sit
set_option maxRecDepth 20000 in
theorem ggX3_enter_X1_init : GoodIn wsX3_enter wsX1_init := goodIn_r _ [9, 10, 11, 12, 13, 14, 15, 40, 41, 42, 43, 44, 45, 46, 47] (by decide +kernel) (by decide +kernel)
set_option maxRecDepth 20000 in
theorem gX3_enter_X1_init : GoodIn wsX3_enter (wsX1_init) := ggX3_enter_X1_init
set_option maxRecDepth 20000 in
theorem ggX3_enter_X1_begin : GoodIn wsX3_enter wsX1_begin := goodIn_r _ [19, 20, 21, 22, 23, 24, 25, 15, 26, 27, 28, 29, 40, 41, 42, 43, 44, 45, 46, 47] (by decide +kernel) (by decide +kernel)
set_option maxRecDepth 20000 in
theorem gX3_enter_X1_begin : GoodIn wsX3_enter (wsV RX3 255 RX1 yX1_begin wsX1_begin) := goodIn_app (goodIn_of _ (by decide +kernel)) ggX3_enter_X1_begin
set_option maxRecDepth 20000 in
theorem ggX3_sit_X1_setPlaces : GoodIn wsX3_sit wsX1_setPlaces := goodIn_r _ [7, 8, 33, 34, 35, 36, 37, 38, 39, 40] (by decide +kernel) (by decide +kernel)
set_option maxRecDepth 20000 in
theorem gX3_sit_X1_setPlaces : GoodIn wsX3_sit (wsV RX3 259 RX1 yX1_setPlaces wsX1_setPlaces) := goodIn_app (goodIn_of _ (by decide +kernel)) ggX3_sit_X1_setPlaces
