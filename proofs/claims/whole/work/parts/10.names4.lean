set_option maxRecDepth 20000 in
theorem ggX4_fewest_X4_longest : GoodIn wsX4_fewest wsX4_longest := goodIn_r _ [5, 6, 7, 8, 9, 10, 11, 4, 12, 13, 14, 15, 16, 17, 18, 19, 20, 21, 22, 23, 24, 25, 26, 27, 28, 29, 30, 31, 32, 33, 34, 35, 36, 37, 38, 39, 40, 41, 42, 43, 44, 45, 46, 47, 48, 49, 50, 51, 52, 53, 54, 55, 56, 57, 58, 59, 60, 61, 62, 63] (by decide +kernel) (by decide +kernel)
set_option maxRecDepth 20000 in
theorem gX4_fewest_X4_longest : GoodIn wsX4_fewest (wsV RX4 143 RX4 yX4_longest wsX4_longest) := goodIn_app (goodIn_of _ (by decide +kernel)) ggX4_fewest_X4_longest
set_option maxRecDepth 20000 in
theorem ggX4_fewest_X4_freeUntil : GoodIn wsX4_fewest wsX4_freeUntil := goodIn_r _ [22, 23, 24, 25, 4, 26, 27, 28, 29, 30, 31, 32, 33, 34, 35, 36, 37, 38, 39, 40, 41, 42, 43, 44, 45, 46, 47, 48, 49, 50, 51, 52, 53, 54, 55, 56, 57, 58, 59, 60, 61, 62, 63] (by decide +kernel) (by decide +kernel)
set_option maxRecDepth 20000 in
theorem gX4_fewest_X4_freeUntil : GoodIn wsX4_fewest (wsV RX4 140 RX4 yX4_freeUntil wsX4_freeUntil) := goodIn_app (goodIn_of _ (by decide +kernel)) ggX4_fewest_X4_freeUntil
set_option maxRecDepth 20000 in
theorem ggX4_flags_X4_seatIn : GoodIn wsX4_flags wsX4_seatIn := goodIn_r _ [7, 8, 9, 10, 11, 12, 13, 14, 15, 16, 17, 18, 19, 20, 21, 22, 23, 24, 25, 26, 27, 28, 29, 30, 31, 32, 33] (by decide +kernel) (by decide +kernel)
set_option maxRecDepth 20000 in
theorem gX4_flags_X4_seatIn : GoodIn wsX4_flags (wsV RX4 146 RX4 yX4_seatIn wsX4_seatIn) := goodIn_app (goodIn_of _ (by decide +kernel)) ggX4_flags_X4_seatIn
set_option maxRecDepth 20000 in
theorem ggX4_book_X4_wrongRide : GoodIn wsX4_book wsX4_wrongRide := goodIn_r _ [6, 7, 8, 9, 10, 5, 11, 12, 94, 95, 96, 97, 98, 99, 100, 101, 102, 103, 104, 105, 106, 107, 108, 109, 110, 111, 112, 113, 114, 115, 116] (by decide +kernel) (by decide +kernel)
set_option maxRecDepth 20000 in
theorem gX4_book_X4_wrongRide : GoodIn wsX4_book (wsV RX4 149 RX4 yX4_wrongRide wsX4_wrongRide) := goodIn_app (goodIn_of _ (by decide +kernel)) ggX4_book_X4_wrongRide
set_option maxRecDepth 20000 in
theorem ggX4_book_X4_bookFor : GoodIn wsX4_book wsX4_bookFor := goodIn_r _ [16, 7, 17, 18, 19, 5, 20, 21, 22, 23, 24, 25, 26, 27, 28, 29, 30, 31, 32, 33, 34, 35, 36, 37, 38, 39, 40, 41, 42, 43, 44, 45, 46, 47, 48, 49, 50, 51, 52, 53, 54, 55, 56, 57, 58, 59, 60, 61, 62, 63, 64, 65, 66, 67, 68, 69, 70, 71, 72, 73, 74, 75, 12, 76, 77, 78, 79, 80, 81, 82, 83, 84, 85, 86, 87, 88, 89, 90, 91, 92, 93, 94, 95, 96, 97, 98, 99, 100, 101, 102, 103, 104, 105, 106, 107, 108, 109, 110, 111, 112, 113, 114, 115, 116] (by decide +kernel) (by decide +kernel)
set_option maxRecDepth 20000 in
theorem gX4_book_X4_bookFor : GoodIn wsX4_book (wsV RX4 152 RX4 yX4_bookFor wsX4_bookFor) := goodIn_app (goodIn_of _ (by decide +kernel)) ggX4_book_X4_bookFor
set_option maxRecDepth 20000 in
theorem ggX4_agencyBook_X4_wrongRide : GoodIn wsX4_agencyBook wsX4_wrongRide := goodIn_r _ [6, 7, 8, 9, 10, 5, 11, 12, 99, 100, 101, 102, 103, 104, 105, 106, 107, 108, 109, 110, 111, 112, 113, 114, 115, 116, 117, 118, 119, 120, 121] (by decide +kernel) (by decide +kernel)
set_option maxRecDepth 20000 in
theorem gX4_agencyBook_X4_wrongRide : GoodIn wsX4_agencyBook (wsV RX4 149 RX4 yX4_wrongRide wsX4_wrongRide) := goodIn_app (goodIn_of _ (by decide +kernel)) ggX4_agencyBook_X4_wrongRide
set_option maxRecDepth 20000 in
theorem ggX4_agencyBook_X4_over : GoodIn wsX4_agencyBook wsX4_over := goodIn_r _ [16, 7, 17, 18, 19, 20, 21, 99, 100, 101, 102, 103, 104, 105, 106, 107, 108, 109, 110, 111, 112, 113, 114, 115, 116, 117, 118, 119, 120, 121] (by decide +kernel) (by decide +kernel)
set_option maxRecDepth 20000 in
theorem gX4_agencyBook_X4_over : GoodIn wsX4_agencyBook (wsV RX4 155 RX4 yX4_over wsX4_over) := goodIn_app (goodIn_of _ (by decide +kernel)) ggX4_agencyBook_X4_over
set_option maxRecDepth 20000 in
theorem ggX4_agencyBook_X4_bookFor : GoodIn wsX4_agencyBook wsX4_bookFor := goodIn_r _ [25, 7, 26, 27, 28, 5, 29, 17, 19, 20, 30, 18, 31, 32, 33, 34, 35, 36, 37, 38, 39, 40, 41, 42, 43, 44, 45, 46, 47, 48, 49, 50, 51, 52, 53, 54, 55, 56, 57, 58, 59, 60, 61, 62, 63, 64, 65, 66, 67, 68, 69, 70, 71, 72, 73, 74, 75, 76, 77, 78, 79, 80, 12, 81, 82, 83, 84, 85, 86, 87, 88, 89, 90, 91, 92, 93, 94, 95, 96, 97, 98, 99, 100, 101, 102, 103, 104, 105, 106, 107, 108, 109, 110, 111, 112, 113, 114, 115, 116, 117, 118, 119, 120, 121] (by decide +kernel) (by decide +kernel)
set_option maxRecDepth 20000 in
theorem gX4_agencyBook_X4_bookFor : GoodIn wsX4_agencyBook (wsV RX4 152 RX4 yX4_bookFor wsX4_bookFor) := goodIn_app (goodIn_of _ (by decide +kernel)) ggX4_agencyBook_X4_bookFor
set_option maxRecDepth 20000 in
theorem ggX4_bookSeat_X4_seatIn : GoodIn wsX4_bookSeat wsX4_seatIn := goodIn_r _ [7, 8, 9, 10, 60, 61, 62, 63, 64, 65, 66, 67, 68, 69, 70, 71, 72, 73, 74, 75, 76, 77, 78, 79, 80, 81, 82] (by decide +kernel) (by decide +kernel)
set_option maxRecDepth 20000 in
theorem gX4_bookSeat_X4_seatIn : GoodIn wsX4_bookSeat (wsV RX4 146 RX4 yX4_seatIn wsX4_seatIn) := goodIn_app (goodIn_of _ (by decide +kernel)) ggX4_bookSeat_X4_seatIn
set_option maxRecDepth 20000 in
theorem ggX4_bookSeat_X4_wrongRide : GoodIn wsX4_bookSeat wsX4_wrongRide := goodIn_r _ [14, 15, 16, 17, 18, 6, 19, 20, 60, 61, 62, 63, 64, 65, 66, 67, 68, 69, 70, 71, 72, 73, 74, 75, 76, 77, 78, 79, 80, 81, 82] (by decide +kernel) (by decide +kernel)
set_option maxRecDepth 20000 in
theorem gX4_bookSeat_X4_wrongRide : GoodIn wsX4_bookSeat (wsV RX4 149 RX4 yX4_wrongRide wsX4_wrongRide) := goodIn_app (goodIn_of _ (by decide +kernel)) ggX4_bookSeat_X4_wrongRide
set_option maxRecDepth 20000 in
theorem ggX4_bookSeat_X4_freeThrough : GoodIn wsX4_bookSeat wsX4_freeThrough := goodIn_r _ [24, 25, 26, 27, 6, 28, 29, 30, 31, 32, 33, 34, 35, 36, 37, 38, 39, 40, 15, 41, 60, 61, 62, 63, 64, 65, 66, 67, 68, 69, 70, 71, 72, 73, 74, 75, 76, 77, 78, 79, 80, 81, 82] (by decide +kernel) (by decide +kernel)
set_option maxRecDepth 20000 in
theorem gX4_bookSeat_X4_freeThrough : GoodIn wsX4_bookSeat (wsV RX4 100 RX4 yX4_freeThrough wsX4_freeThrough) := goodIn_app (goodIn_of _ (by decide +kernel)) ggX4_bookSeat_X4_freeThrough
set_option maxRecDepth 20000 in
theorem ggX4_bookSeat_X4_begin : GoodIn wsX4_bookSeat wsX4_begin := goodIn_r _ [45, 15, 46, 47, 48, 49, 50, 51, 52, 53, 54, 6, 55, 41, 60, 61, 62, 63, 64, 65, 66, 67, 68, 69, 70, 71, 72, 73, 74, 75, 76, 77, 78, 79, 80, 81, 82] (by decide +kernel) (by decide +kernel)
set_option maxRecDepth 20000 in
theorem gX4_bookSeat_X4_begin : GoodIn wsX4_bookSeat (wsV RX4 125 RX4 yX4_begin wsX4_begin) := goodIn_app (goodIn_of _ (by decide +kernel)) ggX4_bookSeat_X4_begin
set_option maxRecDepth 20000 in
theorem ggX4_bookSeat_X4_sit : GoodIn wsX4_bookSeat wsX4_sit := goodIn_r _ [59, 41, 47, 48, 60, 61, 62, 63, 64, 65, 66, 67, 68, 69, 70, 71, 72, 73, 74, 75, 76, 77, 78, 79, 80, 81, 82] (by decide +kernel) (by decide +kernel)
set_option maxRecDepth 20000 in
theorem gX4_bookSeat_X4_sit : GoodIn wsX4_bookSeat (wsV RX4 115 RX4 yX4_sit wsX4_sit) := goodIn_app (goodIn_of _ (by decide +kernel)) ggX4_bookSeat_X4_sit
set_option maxRecDepth 20000 in
theorem ggX4_bookGroup_X4_wrongRide : GoodIn wsX4_bookGroup wsX4_wrongRide := goodIn_r _ [9, 4, 10, 11, 12, 8, 13, 14, 64, 65, 66, 67, 68, 69, 70, 71, 72, 73, 74, 75, 76, 77, 78, 79, 80, 81, 82, 83, 84, 85, 86] (by decide +kernel) (by decide +kernel)
set_option maxRecDepth 20000 in
theorem gX4_bookGroup_X4_wrongRide : GoodIn wsX4_bookGroup (wsV RX4 149 RX4 yX4_wrongRide wsX4_wrongRide) := goodIn_app (goodIn_of _ (by decide +kernel)) ggX4_bookGroup_X4_wrongRide
set_option maxRecDepth 20000 in
theorem ggX4_bookGroup_X4_ofClass : GoodIn wsX4_bookGroup wsX4_ofClass := goodIn_r _ [18, 19, 20, 21, 22, 23, 8, 24, 3, 64, 65, 66, 67, 68, 69, 70, 71, 72, 73, 74, 75, 76, 77, 78, 79, 80, 81, 82, 83, 84, 85, 86] (by decide +kernel) (by decide +kernel)
set_option maxRecDepth 20000 in
theorem gX4_bookGroup_X4_ofClass : GoodIn wsX4_bookGroup (wsV RX4 97 RX4 yX4_ofClass wsX4_ofClass) := goodIn_app (goodIn_of _ (by decide +kernel)) ggX4_bookGroup_X4_ofClass
set_option maxRecDepth 20000 in
theorem ggX4_bookGroup_X4_freeThrough : GoodIn wsX4_bookGroup wsX4_freeThrough := goodIn_r _ [28, 29, 30, 31, 8, 32, 33, 34, 35, 36, 37, 38, 39, 40, 41, 42, 43, 44, 4, 45, 64, 65, 66, 67, 68, 69, 70, 71, 72, 73, 74, 75, 76, 77, 78, 79, 80, 81, 82, 83, 84, 85, 86] (by decide +kernel) (by decide +kernel)
set_option maxRecDepth 20000 in
theorem gX4_bookGroup_X4_freeThrough : GoodIn wsX4_bookGroup (wsV RX4 100 RX4 yX4_freeThrough wsX4_freeThrough) := goodIn_app (goodIn_of _ (by decide +kernel)) ggX4_bookGroup_X4_freeThrough
set_option maxRecDepth 20000 in
theorem ggX4_bookGroup_X4_begin : GoodIn wsX4_bookGroup wsX4_begin := goodIn_r _ [49, 4, 50, 51, 52, 53, 54, 55, 56, 57, 58, 8, 59, 45, 64, 65, 66, 67, 68, 69, 70, 71, 72, 73, 74, 75, 76, 77, 78, 79, 80, 81, 82, 83, 84, 85, 86] (by decide +kernel) (by decide +kernel)
set_option maxRecDepth 20000 in
theorem gX4_bookGroup_X4_begin : GoodIn wsX4_bookGroup (wsV RX4 125 RX4 yX4_begin wsX4_begin) := goodIn_app (goodIn_of _ (by decide +kernel)) ggX4_bookGroup_X4_begin
set_option maxRecDepth 20000 in
theorem ggX4_bookGroup_X4_sit : GoodIn wsX4_bookGroup wsX4_sit := goodIn_r _ [63, 45, 51, 52, 64, 65, 66, 67, 68, 69, 70, 71, 72, 73, 74, 75, 76, 77, 78, 79, 80, 81, 82, 83, 84, 85, 86] (by decide +kernel) (by decide +kernel)
set_option maxRecDepth 20000 in
theorem gX4_bookGroup_X4_sit : GoodIn wsX4_bookGroup (wsV RX4 115 RX4 yX4_sit wsX4_sit) := goodIn_app (goodIn_of _ (by decide +kernel)) ggX4_bookGroup_X4_sit
set_option maxRecDepth 20000 in
theorem ggX4_offerChanges_X4_way : GoodIn wsX4_offerChanges wsX4_way := goodIn_r _ [6, 7, 50, 51, 52, 53, 54, 55, 56, 57, 58, 59, 60, 61, 62, 63, 64, 65, 66, 67, 68, 69, 70, 71, 72] (by decide +kernel) (by decide +kernel)
set_option maxRecDepth 20000 in
theorem gX4_offerChanges_X4_way : GoodIn wsX4_offerChanges (wsV RX4 122 RX4 yX4_way wsX4_way) := goodIn_app (goodIn_of _ (by decide +kernel)) ggX4_offerChanges_X4_way
set_option maxRecDepth 20000 in
theorem ggX4_offerChanges_X4_fewest : GoodIn wsX4_offerChanges wsX4_fewest := goodIn_r _ [11, 12, 13, 14, 5, 15, 16, 17, 7, 18, 19, 20, 21, 22, 23, 24, 25, 26, 27, 28, 29, 30, 31, 32, 33, 34, 35, 36, 37, 38, 39, 40, 41, 42, 43, 44, 45, 46, 47, 48, 49, 50, 51, 52, 53, 54, 55, 56, 57, 58, 59, 60, 61, 62, 63, 64, 65, 66, 67, 68, 69, 70, 71, 72] (by decide +kernel) (by decide +kernel)
set_option maxRecDepth 20000 in
theorem gX4_offerChanges_X4_fewest : GoodIn wsX4_offerChanges (wsV RX4 158 RX4 yX4_fewest wsX4_fewest) := goodIn_app (goodIn_of _ (by decide +kernel)) ggX4_offerChanges_X4_fewest
set_option maxRecDepth 20000 in
theorem ggX4_bookChanges_X4_wrongRide : GoodIn wsX4_bookChanges wsX4_wrongRide := goodIn_r _ [7, 8, 9, 10, 11, 6, 12, 13, 68, 69, 70, 71, 72, 73, 74, 75, 76, 77, 78, 79, 80, 81, 82, 83, 84, 85, 86, 87, 88, 89, 90] (by decide +kernel) (by decide +kernel)
set_option maxRecDepth 20000 in
theorem gX4_bookChanges_X4_wrongRide : GoodIn wsX4_bookChanges (wsV RX4 149 RX4 yX4_wrongRide wsX4_wrongRide) := goodIn_app (goodIn_of _ (by decide +kernel)) ggX4_bookChanges_X4_wrongRide
set_option maxRecDepth 20000 in
theorem ggX4_bookChanges_X4_fewest : GoodIn wsX4_bookChanges wsX4_fewest := goodIn_r _ [17, 18, 19, 20, 6, 21, 22, 23, 13, 24, 25, 26, 27, 28, 29, 30, 31, 32, 33, 34, 35, 36, 37, 38, 39, 40, 41, 42, 43, 44, 45, 46, 47, 48, 49, 50, 51, 52, 53, 8, 2, 68, 69, 70, 71, 72, 73, 74, 75, 76, 77, 78, 79, 80, 81, 82, 83, 84, 85, 86, 87, 88, 89, 90] (by decide +kernel) (by decide +kernel)
set_option maxRecDepth 20000 in
theorem gX4_bookChanges_X4_fewest : GoodIn wsX4_bookChanges (wsV RX4 158 RX4 yX4_fewest wsX4_fewest) := goodIn_app (goodIn_of _ (by decide +kernel)) ggX4_bookChanges_X4_fewest
set_option maxRecDepth 20000 in
theorem ggX4_bookChanges_X4_begin : GoodIn wsX4_bookChanges wsX4_begin := goodIn_r _ [57, 8, 58, 59, 60, 61, 62, 63, 64, 65, 66, 6, 67, 2, 68, 69, 70, 71, 72, 73, 74, 75, 76, 77, 78, 79, 80, 81, 82, 83, 84, 85, 86, 87, 88, 89, 90] (by decide +kernel) (by decide +kernel)
set_option maxRecDepth 20000 in
theorem gX4_bookChanges_X4_begin : GoodIn wsX4_bookChanges (wsV RX4 125 RX4 yX4_begin wsX4_begin) := goodIn_app (goodIn_of _ (by decide +kernel)) ggX4_bookChanges_X4_begin
set_option maxRecDepth 20000 in
theorem ggX4_bookChanges_X4_longest : GoodIn wsX4_bookChanges wsX4_longest := goodIn_r _ [21, 22, 23, 13, 24, 25, 26, 6, 27, 28, 29, 30, 31, 32, 33, 34, 35, 36, 37, 38, 39, 40, 41, 42, 43, 44, 45, 46, 47, 48, 49, 50, 51, 52, 53, 8, 2, 68, 69, 70, 71, 72, 73, 74, 75, 76, 77, 78, 79, 80, 81, 82, 83, 84, 85, 86, 87, 88, 89, 90] (by decide +kernel) (by decide +kernel)
set_option maxRecDepth 20000 in
theorem gX4_bookChanges_X4_longest : GoodIn wsX4_bookChanges (wsV RX4 143 RX4 yX4_longest wsX4_longest) := goodIn_app (goodIn_of _ (by decide +kernel)) ggX4_bookChanges_X4_longest
set_option maxRecDepth 20000 in
theorem ggX4_bookChanges_X4_freeUntil : GoodIn wsX4_bookChanges wsX4_freeUntil := goodIn_r _ [37, 38, 39, 40, 6, 41, 42, 43, 44, 45, 46, 47, 48, 49, 50, 51, 52, 53, 8, 2, 68, 69, 70, 71, 72, 73, 74, 75, 76, 77, 78, 79, 80, 81, 82, 83, 84, 85, 86, 87, 88, 89, 90] (by decide +kernel) (by decide +kernel)
set_option maxRecDepth 20000 in
theorem gX4_bookChanges_X4_freeUntil : GoodIn wsX4_bookChanges (wsV RX4 140 RX4 yX4_freeUntil wsX4_freeUntil) := goodIn_app (goodIn_of _ (by decide +kernel)) ggX4_bookChanges_X4_freeUntil
set_option maxRecDepth 20000 in
theorem ggX4_canClear_X4_blocked : GoodIn wsX4_canClear wsX4_blocked := goodIn_r _ [8, 9, 10, 11, 12, 19, 20, 21, 22, 23, 24, 25, 26, 27, 28, 29, 30, 31, 32, 33, 34, 35, 36, 37, 38, 39, 40, 41] (by decide +kernel) (by decide +kernel)
set_option maxRecDepth 20000 in
theorem gX4_canClear_X4_blocked : GoodIn wsX4_canClear (wsV RX4 85 RX4 yX4_blocked wsX4_blocked) := goodIn_app (goodIn_of _ (by decide +kernel)) ggX4_canClear_X4_blocked
set_option maxRecDepth 20000 in
theorem ggX4_canClear_X4_rider : GoodIn wsX4_canClear wsX4_rider := goodIn_r _ [16, 17, 18, 19, 20, 21, 22, 23, 24, 25, 26, 27, 28, 29, 30, 31, 32, 33, 34, 35, 36, 37, 38, 39, 40, 41] (by decide +kernel) (by decide +kernel)
set_option maxRecDepth 20000 in
theorem gX4_canClear_X4_rider : GoodIn wsX4_canClear (wsV RX4 89 RX4 yX4_rider wsX4_rider) := goodIn_app (goodIn_of _ (by decide +kernel)) ggX4_canClear_X4_rider
set_option maxRecDepth 20000 in
theorem ggX4_wish_X4_living : GoodIn wsX4_wish wsX4_living := goodIn_r _ [14, 15, 2, 77, 78, 79, 80, 81, 82, 83, 84, 85, 86, 87, 88, 89, 90, 91, 92, 93, 94, 95, 96, 97, 98, 99] (by decide +kernel) (by decide +kernel)
set_option maxRecDepth 20000 in
theorem gX4_wish_X4_living : GoodIn wsX4_wish (wsV RX4 161 RX4 yX4_living wsX4_living) := goodIn_app (goodIn_of _ (by decide +kernel)) ggX4_wish_X4_living
set_option maxRecDepth 20000 in
theorem ggX4_wish_X4_ofClass : GoodIn wsX4_wish wsX4_ofClass := goodIn_r _ [19, 20, 21, 22, 23, 24, 13, 25, 3, 77, 78, 79, 80, 81, 82, 83, 84, 85, 86, 87, 88, 89, 90, 91, 92, 93, 94, 95, 96, 97, 98, 99] (by decide +kernel) (by decide +kernel)
set_option maxRecDepth 20000 in
theorem gX4_wish_X4_ofClass : GoodIn wsX4_wish (wsV RX4 97 RX4 yX4_ofClass wsX4_ofClass) := goodIn_app (goodIn_of _ (by decide +kernel)) ggX4_wish_X4_ofClass
set_option maxRecDepth 20000 in
theorem ggX4_wish_X4_freeThrough : GoodIn wsX4_wish wsX4_freeThrough := goodIn_r _ [29, 30, 31, 32, 13, 33, 34, 35, 36, 37, 38, 39, 40, 41, 42, 43, 44, 45, 15, 9, 77, 78, 79, 80, 81, 82, 83, 84, 85, 86, 87, 88, 89, 90, 91, 92, 93, 94, 95, 96, 97, 98, 99] (by decide +kernel) (by decide +kernel)
set_option maxRecDepth 20000 in
theorem gX4_wish_X4_freeThrough : GoodIn wsX4_wish (wsV RX4 100 RX4 yX4_freeThrough wsX4_freeThrough) := goodIn_app (goodIn_of _ (by decide +kernel)) ggX4_wish_X4_freeThrough
set_option maxRecDepth 20000 in
theorem ggX4_wish_X4_sit : GoodIn wsX4_wish wsX4_sit := goodIn_r _ [49, 9, 7, 8, 77, 78, 79, 80, 81, 82, 83, 84, 85, 86, 87, 88, 89, 90, 91, 92, 93, 94, 95, 96, 97, 98, 99] (by decide +kernel) (by decide +kernel)
set_option maxRecDepth 20000 in
theorem gX4_wish_X4_sit : GoodIn wsX4_wish (wsV RX4 115 RX4 yX4_sit wsX4_sit) := goodIn_app (goodIn_of _ (by decide +kernel)) ggX4_wish_X4_sit
set_option maxRecDepth 20000 in
theorem ggX4_wish_X4_told : GoodIn wsX4_wish wsX4_told := goodIn_r _ [53, 3, 22, 23, 24, 13, 25, 77, 78, 79, 80, 81, 82, 83, 84, 85, 86, 87, 88, 89, 90, 91, 92, 93, 94, 95, 96, 97, 98, 99] (by decide +kernel) (by decide +kernel)
set_option maxRecDepth 20000 in
theorem gX4_wish_X4_told : GoodIn wsX4_wish (wsV RX4 164 RX4 yX4_told wsX4_told) := goodIn_app (goodIn_of _ (by decide +kernel)) ggX4_wish_X4_told
set_option maxRecDepth 20000 in
theorem ggX4_wish_X4_canClear : GoodIn wsX4_wish wsX4_canClear := goodIn_r _ [57, 7, 8, 2, 34, 35, 36, 13, 37, 38, 39, 40, 41, 42, 43, 44, 45, 15, 9, 77, 78, 79, 80, 81, 82, 83, 84, 85, 86, 87, 88, 89, 90, 91, 92, 93, 94, 95, 96, 97, 98, 99] (by decide +kernel) (by decide +kernel)
set_option maxRecDepth 20000 in
theorem gX4_wish_X4_canClear : GoodIn wsX4_wish (wsV RX4 167 RX4 yX4_canClear wsX4_canClear) := goodIn_app (goodIn_of _ (by decide +kernel)) ggX4_wish_X4_canClear
set_option maxRecDepth 20000 in
theorem ggX4_wish_X4_sweep : GoodIn wsX4_wish wsX4_sweep := goodIn_r _ [61, 15, 62, 9, 2, 5, 63, 7, 8, 64, 65, 66, 67, 13, 68, 69, 70, 71, 72, 3, 4, 16, 17, 18, 19, 20, 21, 22, 23, 24, 25, 26, 27, 28, 29, 30, 31, 32, 33, 34, 35, 36, 37, 38, 39, 40, 41, 42, 43, 44, 45, 73, 74, 75, 76, 46, 47, 48, 49, 77, 78, 79, 80, 81, 82, 83, 84, 85, 86, 87, 88, 89, 90, 91, 92, 93, 94, 95, 96, 97, 98, 99] (by decide +kernel) (by decide +kernel)
set_option maxRecDepth 20000 in
theorem gX4_wish_X4_sweep : GoodIn wsX4_wish (wsV RX4 119 RX4 yX4_sweep wsX4_sweep) := goodIn_app (goodIn_of _ (by decide +kernel)) ggX4_wish_X4_sweep
set_option maxRecDepth 20000 in
theorem ggX4_print_X4_living : GoodIn wsX4_print wsX4_living := goodIn_r _ [8, 9, 2, 10, 11, 12, 13, 14, 15, 16, 17, 18, 19, 20, 21, 22, 23, 24, 25, 26, 27, 28, 29, 30, 31, 32] (by decide +kernel) (by decide +kernel)
set_option maxRecDepth 20000 in
theorem gX4_print_X4_living : GoodIn wsX4_print (wsV RX4 161 RX4 yX4_living wsX4_living) := goodIn_app (goodIn_of _ (by decide +kernel)) ggX4_print_X4_living
set_option maxRecDepth 20000 in
theorem ggX4_cancel_X4_living : GoodIn wsX4_cancel wsX4_living := goodIn_r _ [7, 8, 2, 14, 15, 16, 17, 18, 19, 20, 21, 22, 23, 24, 25, 26, 27, 28, 29, 30, 31, 32, 33, 34, 35, 36] (by decide +kernel) (by decide +kernel)
set_option maxRecDepth 20000 in
theorem gX4_cancel_X4_living : GoodIn wsX4_cancel (wsV RX4 161 RX4 yX4_living wsX4_living) := goodIn_app (goodIn_of _ (by decide +kernel)) ggX4_cancel_X4_living
set_option maxRecDepth 20000 in
theorem ggX4_cancel_X4_standUp : GoodIn wsX4_cancel wsX4_standUp := goodIn_r _ [12, 13, 14, 15, 16, 17, 18, 19, 20, 21, 22, 23, 24, 25, 26, 27, 28, 29, 30, 31, 32, 33, 34, 35, 36] (by decide +kernel) (by decide +kernel)
set_option maxRecDepth 20000 in
theorem gX4_cancel_X4_standUp : GoodIn wsX4_cancel (wsV RX4 107 RX4 yX4_standUp wsX4_standUp) := goodIn_app (goodIn_of _ (by decide +kernel)) ggX4_cancel_X4_standUp
set_option maxRecDepth 20000 in
theorem ggX4_shorten_X4_living : GoodIn wsX4_shorten wsX4_living := goodIn_r _ [10, 11, 2, 12, 13, 14, 15, 16, 17, 18, 19, 20, 21, 22, 23, 24, 25, 26, 27, 28, 29, 30, 31, 32, 33, 34] (by decide +kernel) (by decide +kernel)
set_option maxRecDepth 20000 in
theorem gX4_shorten_X4_living : GoodIn wsX4_shorten (wsV RX4 161 RX4 yX4_living wsX4_living) := goodIn_app (goodIn_of _ (by decide +kernel)) ggX4_shorten_X4_living
set_option maxRecDepth 20000 in
theorem ggX4_seatOf_X4_living : GoodIn wsX4_seatOf wsX4_living := goodIn_r _ [8, 9, 10, 20, 21, 22, 23, 24, 25, 26, 27, 28, 29, 30, 31, 32, 33, 34, 35, 36, 37, 38, 39, 40, 41, 42] (by decide +kernel) (by decide +kernel)
set_option maxRecDepth 20000 in
theorem gX4_seatOf_X4_living : GoodIn wsX4_seatOf (wsV RX4 161 RX4 yX4_living wsX4_living) := goodIn_app (goodIn_of _ (by decide +kernel)) ggX4_seatOf_X4_living
set_option maxRecDepth 20000 in
theorem ggX4_seatOf_X4_told : GoodIn wsX4_seatOf wsX4_told := goodIn_r _ [14, 15, 16, 17, 18, 7, 19, 20, 21, 22, 23, 24, 25, 26, 27, 28, 29, 30, 31, 32, 33, 34, 35, 36, 37, 38, 39, 40, 41, 42] (by decide +kernel) (by decide +kernel)
set_option maxRecDepth 20000 in
theorem gX4_seatOf_X4_told : GoodIn wsX4_seatOf (wsV RX4 164 RX4 yX4_told wsX4_told) := goodIn_app (goodIn_of _ (by decide +kernel)) ggX4_seatOf_X4_told
set_option maxRecDepth 20000 in
theorem ggX4_block_X4_seatIn : GoodIn wsX4_block wsX4_seatIn := goodIn_r _ [12, 13, 14, 15, 72, 73, 74, 75, 76, 77, 78, 79, 80, 81, 82, 83, 84, 85, 86, 87, 88, 89, 90, 91, 92, 93, 94] (by decide +kernel) (by decide +kernel)
set_option maxRecDepth 20000 in
theorem gX4_block_X4_seatIn : GoodIn wsX4_block (wsV RX4 146 RX4 yX4_seatIn wsX4_seatIn) := goodIn_app (goodIn_of _ (by decide +kernel)) ggX4_block_X4_seatIn
set_option maxRecDepth 20000 in
theorem ggX4_block_X4_way : GoodIn wsX4_block wsX4_way := goodIn_r _ [19, 20, 72, 73, 74, 75, 76, 77, 78, 79, 80, 81, 82, 83, 84, 85, 86, 87, 88, 89, 90, 91, 92, 93, 94] (by decide +kernel) (by decide +kernel)
set_option maxRecDepth 20000 in
theorem gX4_block_X4_way : GoodIn wsX4_block (wsV RX4 122 RX4 yX4_way wsX4_way) := goodIn_app (goodIn_of _ (by decide +kernel)) ggX4_block_X4_way
set_option maxRecDepth 20000 in
theorem ggX4_block_X4_rider : GoodIn wsX4_block wsX4_rider := goodIn_r _ [24, 25, 26, 72, 73, 74, 75, 76, 77, 78, 79, 80, 81, 82, 83, 84, 85, 86, 87, 88, 89, 90, 91, 92, 93, 94] (by decide +kernel) (by decide +kernel)
set_option maxRecDepth 20000 in
theorem gX4_block_X4_rider : GoodIn wsX4_block (wsV RX4 89 RX4 yX4_rider wsX4_rider) := goodIn_app (goodIn_of _ (by decide +kernel)) ggX4_block_X4_rider
set_option maxRecDepth 20000 in
theorem ggX4_block_X4_sweep : GoodIn wsX4_block wsX4_sweep := goodIn_r _ [30, 25, 31, 26, 2, 32, 20, 33, 34, 35, 36, 37, 38, 11, 39, 40, 41, 42, 43, 15, 13, 44, 45, 46, 47, 14, 7, 48, 49, 50, 51, 52, 53, 54, 55, 56, 57, 58, 59, 60, 61, 62, 63, 4, 3, 5, 6, 21, 22, 23, 24, 64, 65, 66, 67, 68, 69, 70, 71, 72, 73, 74, 75, 76, 77, 78, 79, 80, 81, 82, 83, 84, 85, 86, 87, 88, 89, 90, 91, 92, 93, 94] (by decide +kernel) (by decide +kernel)
set_option maxRecDepth 20000 in
theorem gX4_block_X4_sweep : GoodIn wsX4_block (wsV RX4 119 RX4 yX4_sweep wsX4_sweep) := goodIn_app (goodIn_of _ (by decide +kernel)) ggX4_block_X4_sweep
set_option maxRecDepth 20000 in
theorem ggX4_unblock_X4_seatIn : GoodIn wsX4_unblock wsX4_seatIn := goodIn_r _ [10, 11, 12, 13, 18, 19, 20, 21, 22, 23, 24, 25, 26, 27, 28, 29, 30, 31, 32, 33, 34, 35, 36, 37, 38, 39, 40] (by decide +kernel) (by decide +kernel)
set_option maxRecDepth 20000 in
theorem gX4_unblock_X4_seatIn : GoodIn wsX4_unblock (wsV RX4 146 RX4 yX4_seatIn wsX4_seatIn) := goodIn_app (goodIn_of _ (by decide +kernel)) ggX4_unblock_X4_seatIn
set_option maxRecDepth 20000 in
theorem ggX4_unblock_X4_dropBlock : GoodIn wsX4_unblock wsX4_dropBlock := goodIn_r _ [17, 2, 3, 4, 5, 18, 19, 20, 21, 22, 23, 24, 25, 26, 27, 28, 29, 30, 31, 32, 33, 34, 35, 36, 37, 38, 39, 40] (by decide +kernel) (by decide +kernel)
set_option maxRecDepth 20000 in
theorem gX4_unblock_X4_dropBlock : GoodIn wsX4_unblock (wsV RX4 170 RX4 yX4_dropBlock wsX4_dropBlock) := goodIn_app (goodIn_of _ (by decide +kernel)) ggX4_unblock_X4_dropBlock
set_option maxRecDepth 20000 in
theorem ggX4_removeCoach_X4_dropBlock : GoodIn wsX4_removeCoach wsX4_dropBlock := goodIn_r _ [15, 4, 5, 16, 17, 82, 83, 84, 85, 86, 87, 88, 89, 90, 91, 92, 93, 94, 95, 96, 97, 98, 99, 100, 101, 102, 103, 104] (by decide +kernel) (by decide +kernel)
set_option maxRecDepth 20000 in
theorem gX4_removeCoach_X4_dropBlock : GoodIn wsX4_removeCoach (wsV RX4 170 RX4 yX4_dropBlock wsX4_dropBlock) := goodIn_app (goodIn_of _ (by decide +kernel)) ggX4_removeCoach_X4_dropBlock
set_option maxRecDepth 20000 in
theorem ggX4_removeCoach_X4_living : GoodIn wsX4_removeCoach wsX4_living := goodIn_r _ [21, 7, 9, 82, 83, 84, 85, 86, 87, 88, 89, 90, 91, 92, 93, 94, 95, 96, 97, 98, 99, 100, 101, 102, 103, 104] (by decide +kernel) (by decide +kernel)
set_option maxRecDepth 20000 in
theorem gX4_removeCoach_X4_living : GoodIn wsX4_removeCoach (wsV RX4 161 RX4 yX4_living wsX4_living) := goodIn_app (goodIn_of _ (by decide +kernel)) ggX4_removeCoach_X4_living
set_option maxRecDepth 20000 in
theorem ggX4_removeCoach_X4_sitsIn : GoodIn wsX4_removeCoach wsX4_sitsIn := goodIn_r _ [25, 26, 6, 82, 83, 84, 85, 86, 87, 88, 89, 90, 91, 92, 93, 94, 95, 96, 97, 98, 99, 100, 101, 102, 103, 104] (by decide +kernel) (by decide +kernel)
set_option maxRecDepth 20000 in
theorem gX4_removeCoach_X4_sitsIn : GoodIn wsX4_removeCoach (wsV RX4 173 RX4 yX4_sitsIn wsX4_sitsIn) := goodIn_app (goodIn_of _ (by decide +kernel)) ggX4_removeCoach_X4_sitsIn
set_option maxRecDepth 20000 in
theorem ggX4_removeCoach_X4_standUp : GoodIn wsX4_removeCoach wsX4_standUp := goodIn_r _ [30, 26, 82, 83, 84, 85, 86, 87, 88, 89, 90, 91, 92, 93, 94, 95, 96, 97, 98, 99, 100, 101, 102, 103, 104] (by decide +kernel) (by decide +kernel)
set_option maxRecDepth 20000 in
theorem gX4_removeCoach_X4_standUp : GoodIn wsX4_removeCoach (wsV RX4 107 RX4 yX4_standUp wsX4_standUp) := goodIn_app (goodIn_of _ (by decide +kernel)) ggX4_removeCoach_X4_standUp
set_option maxRecDepth 20000 in
theorem ggX4_removeCoach_X4_place : GoodIn wsX4_removeCoach wsX4_place := goodIn_r _ [34, 35, 36, 37, 38, 39, 40, 14, 41, 6, 2, 42, 43, 44, 45, 3, 46, 47, 48, 49, 50, 51, 52, 53, 54, 55, 56, 57, 58, 59, 60, 61, 62, 4, 5, 16, 17, 63, 64, 65, 66, 7, 26, 67, 68, 69, 70, 71, 72, 73, 74, 75, 76, 77, 78, 79, 80, 9, 81, 27, 28, 29, 30, 82, 83, 84, 85, 86, 87, 88, 89, 90, 91, 92, 93, 94, 95, 96, 97, 98, 99, 100, 101, 102, 103, 104] (by decide +kernel) (by decide +kernel)
set_option maxRecDepth 20000 in
theorem gX4_removeCoach_X4_place : GoodIn wsX4_removeCoach (wsV RX4 129 RX4 yX4_place wsX4_place) := goodIn_app (goodIn_of _ (by decide +kernel)) ggX4_removeCoach_X4_place
set_option maxRecDepth 20000 in
theorem ggX4_load_X4_countGoing : GoodIn wsX4_load wsX4_countGoing := goodIn_r _ [7, 8, 9, 10, 11, 12, 13, 14, 15, 16, 17, 18, 19, 20, 21, 22, 23, 24, 25, 26, 27, 28, 29, 30, 31, 32, 33, 34, 35] (by decide +kernel) (by decide +kernel)
set_option maxRecDepth 20000 in
theorem gX4_load_X4_countGoing : GoodIn wsX4_load (wsV RX4 133 RX4 yX4_countGoing wsX4_countGoing) := goodIn_app (goodIn_of _ (by decide +kernel)) ggX4_load_X4_countGoing
set_option maxRecDepth 20000 in
theorem ggX4_free_X4_ofClass : GoodIn wsX4_free wsX4_ofClass := goodIn_r _ [9, 10, 11, 12, 13, 14, 8, 15, 3, 34, 35, 36, 37, 38, 39, 40, 41, 42, 43, 44, 45, 46, 47, 48, 49, 50, 51, 52, 53, 54, 55, 56] (by decide +kernel) (by decide +kernel)
set_option maxRecDepth 20000 in
theorem gX4_free_X4_ofClass : GoodIn wsX4_free (wsV RX4 97 RX4 yX4_ofClass wsX4_ofClass) := goodIn_app (goodIn_of _ (by decide +kernel)) ggX4_free_X4_ofClass
set_option maxRecDepth 20000 in
theorem ggX4_free_X4_freeAt : GoodIn wsX4_free wsX4_freeAt := goodIn_r _ [19, 20, 21, 22, 8, 23, 24, 25, 26, 27, 28, 29, 30, 31, 32, 33, 34, 35, 36, 37, 38, 39, 40, 41, 42, 43, 44, 45, 46, 47, 48, 49, 50, 51, 52, 53, 54, 55, 56] (by decide +kernel) (by decide +kernel)
set_option maxRecDepth 20000 in
theorem gX4_free_X4_freeAt : GoodIn wsX4_free (wsV RX4 93 RX4 yX4_freeAt wsX4_freeAt) := goodIn_app (goodIn_of _ (by decide +kernel)) ggX4_free_X4_freeAt
