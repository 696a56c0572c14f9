set_option maxRecDepth 20000 in
theorem ggX0_remove_X0_removeAt : GoodIn wsX0_remove wsX0_removeAt := goodIn_r _ [8, 1, 2, 3, 9, 10, 11] (by decide +kernel) (by decide +kernel)
set_option maxRecDepth 20000 in
theorem gX0_remove_X0_removeAt : GoodIn wsX0_remove (wsV RX0 22 RX0 yX0_removeAt wsX0_removeAt) := goodIn_app (goodIn_of _ (by decide +kernel)) ggX0_remove_X0_removeAt
set_option maxRecDepth 20000 in
theorem ggX0_removeAll_X0_removeAt : GoodIn wsX0_removeAll wsX0_removeAt := goodIn_r _ [7, 1, 2, 8, 9, 10, 11] (by decide +kernel) (by decide +kernel)
set_option maxRecDepth 20000 in
theorem gX0_removeAll_X0_removeAt : GoodIn wsX0_removeAll (wsV RX0 22 RX0 yX0_removeAt wsX0_removeAt) := goodIn_app (goodIn_of _ (by decide +kernel)) ggX0_removeAll_X0_removeAt
set_option maxRecDepth 20000 in
theorem ggX1_begin_J7_fill_53178 : GoodIn wsX1_begin wsJ7_fill_53178 := goodIn_r _ [11] (by decide +kernel) (by decide +kernel)
set_option maxRecDepth 20000 in
theorem gX1_begin_J7_fill_53178 : GoodIn wsX1_begin (va_wsS RX1 38 yJ7_fill_53178 wsJ7_fill_53178) := goodIn_app (goodIn_of _ (by decide +kernel)) ggX1_begin_J7_fill_53178
set_option maxRecDepth 20000 in
theorem ggX1_way_X3_way : GoodIn wsX1_way wsX3_way := goodIn_r _ [5] (by decide +kernel) (by decide +kernel)
set_option maxRecDepth 20000 in
theorem gX1_way_X3_way_n44 : GoodIn wsX1_way (wsX3_way) := ggX1_way_X3_way
set_option maxRecDepth 20000 in
theorem ggX2_find_X2_isThere : GoodIn wsX2_find wsX2_isThere := goodIn_r _ [6, 7, 8, 17, 18, 19, 20, 21, 22, 23, 24, 25, 26] (by decide +kernel) (by decide +kernel)
set_option maxRecDepth 20000 in
theorem gX2_find_X2_isThere : GoodIn wsX2_find (wsV RX2 44 RX2 yX2_isThere wsX2_isThere) := goodIn_app (goodIn_of _ (by decide +kernel)) ggX2_find_X2_isThere
set_option maxRecDepth 20000 in
theorem ggX2_find_X2_endOf : GoodIn wsX2_find wsX2_endOf := goodIn_r _ [12, 1, 17, 18, 19, 20, 21, 22, 23, 24, 25, 26] (by decide +kernel) (by decide +kernel)
set_option maxRecDepth 20000 in
theorem gX2_find_X2_endOf : GoodIn wsX2_find (wsV RX2 48 RX2 yX2_endOf wsX2_endOf) := goodIn_app (goodIn_of _ (by decide +kernel)) ggX2_find_X2_endOf
set_option maxRecDepth 20000 in
theorem ggX2_find_X2_firstOf : GoodIn wsX2_find wsX2_firstOf := goodIn_r _ [16, 1, 17, 18, 19, 20, 21, 22, 23, 24, 25, 26] (by decide +kernel) (by decide +kernel)
set_option maxRecDepth 20000 in
theorem gX2_find_X2_firstOf : GoodIn wsX2_find (wsV RX2 52 RX2 yX2_firstOf wsX2_firstOf) := goodIn_app (goodIn_of _ (by decide +kernel)) ggX2_find_X2_firstOf
set_option maxRecDepth 20000 in
theorem ggX2_spaceFrom_J6_bitCount_0f7a4 : GoodIn wsX2_spaceFrom wsJ6_bitCount_0f7a4 := goodIn_r _ [7, 8, 9, 10] (by decide +kernel) (by decide +kernel)
set_option maxRecDepth 20000 in
theorem gX2_spaceFrom_J6_bitCount_0f7a4 : GoodIn wsX2_spaceFrom (va_wsS RX2 55 yJ6_bitCount_0f7a4 wsJ6_bitCount_0f7a4) := goodIn_app (goodIn_of _ (by decide +kernel)) ggX2_spaceFrom_J6_bitCount_0f7a4
set_option maxRecDepth 20000 in
theorem ggX2_best_X1_way : GoodIn wsX2_best wsX1_way := goodIn_r _ [9, 10, 11, 12, 13, 14, 44, 45, 46, 47, 48, 49, 50, 51] (by decide +kernel) (by decide +kernel)
set_option maxRecDepth 20000 in
theorem gX2_best_X1_way : GoodIn wsX2_best (wsV RX2 60 RX1 yX1_way wsX1_way) := goodIn_app (goodIn_of _ (by decide +kernel)) ggX2_best_X1_way
set_option maxRecDepth 20000 in
theorem ggX2_best_X2_isFree : GoodIn wsX2_best wsX2_isFree := goodIn_r _ [19, 20, 21, 34, 35, 36, 37, 38, 39, 40, 41, 42, 43] (by decide +kernel) (by decide +kernel)
set_option maxRecDepth 20000 in
theorem gX2_best_X2_isFree : GoodIn wsX2_best (wsV RX2 68 RX2 yX2_isFree wsX2_isFree) := goodIn_app (goodIn_of _ (by decide +kernel)) ggX2_best_X2_isFree
set_option maxRecDepth 20000 in
theorem ggX2_best_X2_spaceFrom : GoodIn wsX2_best wsX2_spaceFrom := goodIn_r _ [25, 20, 21, 26, 27, 28, 29, 30, 31, 32, 33, 34, 35, 36, 37, 38, 39, 40, 41, 42, 43] (by decide +kernel) (by decide +kernel)
set_option maxRecDepth 20000 in
theorem gX2_best_X2_spaceFrom : GoodIn wsX2_best (wsV RX2 75 RX2 yX2_spaceFrom wsX2_spaceFrom) := goodIn_app (goodIn_of _ (by decide +kernel)) ggX2_best_X2_spaceFrom
set_option maxRecDepth 20000 in
theorem ggX2_longestFree_X2_spaceFrom : GoodIn wsX2_longestFree wsX2_spaceFrom := goodIn_r _ [7, 8, 9, 10, 11, 12, 13, 14, 15, 16, 17, 18, 19, 20, 21, 22, 23, 24, 25, 26, 27] (by decide +kernel) (by decide +kernel)
set_option maxRecDepth 20000 in
theorem gX2_longestFree_X2_spaceFrom : GoodIn wsX2_longestFree (wsV RX2 75 RX2 yX2_spaceFrom wsX2_spaceFrom) := goodIn_app (goodIn_of _ (by decide +kernel)) ggX2_longestFree_X2_spaceFrom
set_option maxRecDepth 20000 in
theorem ggX2_lowestFree_X1_way : GoodIn wsX2_lowestFree wsX1_way := goodIn_r _ [7, 8, 9, 10, 11, 12, 36, 37, 38, 39, 40, 41, 42, 43] (by decide +kernel) (by decide +kernel)
set_option maxRecDepth 20000 in
theorem gX2_lowestFree_X1_way : GoodIn wsX2_lowestFree (wsV RX2 60 RX1 yX1_way wsX1_way) := goodIn_app (goodIn_of _ (by decide +kernel)) ggX2_lowestFree_X1_way
set_option maxRecDepth 20000 in
theorem ggX2_lowestFree_X2_suits : GoodIn wsX2_lowestFree wsX2_suits := goodIn_r _ [17, 18, 19, 26, 27, 28, 29, 30, 31, 32, 33, 34, 35] (by decide +kernel) (by decide +kernel)
set_option maxRecDepth 20000 in
theorem gX2_lowestFree_X2_suits : GoodIn wsX2_lowestFree (wsV RX2 79 RX2 yX2_suits wsX2_suits) := goodIn_app (goodIn_of _ (by decide +kernel)) ggX2_lowestFree_X2_suits
set_option maxRecDepth 20000 in
theorem ggX2_lowestFree_X2_isFree : GoodIn wsX2_lowestFree wsX2_isFree := goodIn_r _ [23, 24, 25, 26, 27, 28, 29, 30, 31, 32, 33, 34, 35] (by decide +kernel) (by decide +kernel)
set_option maxRecDepth 20000 in
theorem gX2_lowestFree_X2_isFree : GoodIn wsX2_lowestFree (wsV RX2 68 RX2 yX2_isFree wsX2_isFree) := goodIn_app (goodIn_of _ (by decide +kernel)) ggX2_lowestFree_X2_isFree
set_option maxRecDepth 20000 in
theorem ggX2_coachWithFree_X2_isFree : GoodIn wsX2_coachWithFree wsX2_isFree := goodIn_r _ [8, 9, 10, 11, 12, 13, 14, 15, 16, 17, 18, 19, 20] (by decide +kernel) (by decide +kernel)
set_option maxRecDepth 20000 in
theorem gX2_coachWithFree_X2_isFree : GoodIn wsX2_coachWithFree (wsV RX2 68 RX2 yX2_isFree wsX2_isFree) := goodIn_app (goodIn_of _ (by decide +kernel)) ggX2_coachWithFree_X2_isFree
set_option maxRecDepth 20000 in
theorem ggX2_countFree_X2_isFree : GoodIn wsX2_countFree wsX2_isFree := goodIn_r _ [7, 8, 9, 10, 11, 12, 13, 14, 15, 16, 17, 18, 19] (by decide +kernel) (by decide +kernel)
set_option maxRecDepth 20000 in
theorem gX2_countFree_X2_isFree : GoodIn wsX2_countFree (wsV RX2 68 RX2 yX2_isFree wsX2_isFree) := goodIn_app (goodIn_of _ (by decide +kernel)) ggX2_countFree_X2_isFree
set_option maxRecDepth 20000 in
theorem ggX2_countOf_X2_countFree : GoodIn wsX2_countOf wsX2_countFree := goodIn_r _ [5, 6, 7, 8, 9, 10, 4, 11, 12, 13, 14, 15, 16, 17, 18, 19, 20, 21, 22, 23] (by decide +kernel) (by decide +kernel)
set_option maxRecDepth 20000 in
theorem gX2_countOf_X2_countFree : GoodIn wsX2_countOf (wsV RX2 83 RX2 yX2_countFree wsX2_countFree) := goodIn_app (goodIn_of _ (by decide +kernel)) ggX2_countOf_X2_countFree
set_option maxRecDepth 20000 in
theorem ggX3_init_X2_init : GoodIn wsX3_init wsX2_init := goodIn_r _ [23, 24, 2, 3, 16, 25, 26, 27, 28, 29, 30, 31, 32, 33, 49, 50, 51, 52, 53, 54, 55, 56, 57, 58] (by decide +kernel) (by decide +kernel)
set_option maxRecDepth 20000 in
theorem gX3_init_X2_init : GoodIn wsX3_init (wsX2_init) := ggX3_init_X2_init
set_option maxRecDepth 20000 in
theorem ggX3_init_X0_init : GoodIn wsX3_init wsX0_init := goodIn_r _ [35, 36, 2, 3, 16, 37, 38, 59, 60, 61] (by decide +kernel) (by decide +kernel)
set_option maxRecDepth 20000 in
theorem gX3_init_X0_init_n24 : GoodIn wsX3_init (wsX0_init) := ggX3_init_X0_init
set_option maxRecDepth 20000 in
theorem ggX3_coach_X3_isClass : GoodIn wsX3_coach wsX3_isClass := goodIn_r _ [5] (by decide +kernel) (by decide +kernel)
set_option maxRecDepth 20000 in
theorem gX3_coach_X3_isClass : GoodIn wsX3_coach (va_wsS RX3 50 yX3_isClass wsX3_isClass) := goodIn_app (goodIn_of _ (by decide +kernel)) ggX3_coach_X3_isClass
set_option maxRecDepth 20000 in
theorem ggX3_coach_X2_hasRoomFor : GoodIn wsX3_coach wsX2_hasRoomFor := goodIn_r _ [10, 11, 12, 31, 32, 33, 34, 35, 36, 37, 38, 39, 40] (by decide +kernel) (by decide +kernel)
set_option maxRecDepth 20000 in
theorem gX3_coach_X2_hasRoomFor : GoodIn wsX3_coach (wsV RX3 54 RX2 yX2_hasRoomFor wsX2_hasRoomFor) := goodIn_app (goodIn_of _ (by decide +kernel)) ggX3_coach_X2_hasRoomFor
set_option maxRecDepth 20000 in
theorem ggX3_coach_X2_addCoach : GoodIn wsX3_coach wsX2_addCoach := goodIn_r _ [16, 11, 17, 12, 18, 19, 20, 31, 32, 33, 34, 35, 36, 37, 38, 39, 40] (by decide +kernel) (by decide +kernel)
set_option maxRecDepth 20000 in
theorem gX3_coach_X2_addCoach : GoodIn wsX3_coach (wsV RX3 57 RX2 yX2_addCoach wsX2_addCoach) := goodIn_app (goodIn_of _ (by decide +kernel)) ggX3_coach_X2_addCoach
set_option maxRecDepth 20000 in
theorem ggX3_flags_X2_find : GoodIn wsX3_flags wsX2_find := goodIn_r _ [7, 8, 9, 10, 11, 6, 12, 13, 14, 15, 16, 17, 18, 19, 20, 21, 22, 37, 38, 39, 40, 41, 42, 43, 44, 45, 46] (by decide +kernel) (by decide +kernel)
set_option maxRecDepth 20000 in
theorem gX3_flags_X2_find : GoodIn wsX3_flags (wsV RX3 61 RX2 yX2_find wsX2_find) := goodIn_app (goodIn_of _ (by decide +kernel)) ggX3_flags_X2_find
set_option maxRecDepth 20000 in
theorem ggX3_flags_X3_isMask : GoodIn wsX3_flags wsX3_isMask := goodIn_r _ [26] (by decide +kernel) (by decide +kernel)
set_option maxRecDepth 20000 in
theorem gX3_flags_X3_isMask : GoodIn wsX3_flags (va_wsS RX3 64 yX3_isMask wsX3_isMask) := goodIn_app (goodIn_of _ (by decide +kernel)) ggX3_flags_X3_isMask
set_option maxRecDepth 20000 in
theorem ggX3_quota_X3_isStretch : GoodIn wsX3_quota wsX3_isStretch := goodIn_r _ [6, 7, 11, 12, 13, 14, 15, 16, 17, 18, 19, 20] (by decide +kernel) (by decide +kernel)
set_option maxRecDepth 20000 in
theorem gX3_quota_X3_isStretch : GoodIn wsX3_quota (wsV RX3 70 RX3 yX3_isStretch wsX3_isStretch) := goodIn_app (goodIn_of _ (by decide +kernel)) ggX3_quota_X3_isStretch
set_option maxRecDepth 20000 in
theorem ggX3_quota_X3_isAgency : GoodIn wsX3_quota wsX3_isAgency := goodIn_r _ [10] (by decide +kernel) (by decide +kernel)
set_option maxRecDepth 20000 in
theorem gX3_quota_X3_isAgency : GoodIn wsX3_quota (va_wsS RX3 73 yX3_isAgency wsX3_isAgency) := goodIn_app (goodIn_of _ (by decide +kernel)) ggX3_quota_X3_isAgency
set_option maxRecDepth 20000 in
theorem ggX3_book_X3_canBook : GoodIn wsX3_book wsX3_canBook := goodIn_r _ [5, 6, 7, 8, 9, 4, 10, 11, 160, 161, 162, 163, 164, 165, 166, 167, 168, 169] (by decide +kernel) (by decide +kernel)
set_option maxRecDepth 20000 in
theorem gX3_book_X3_canBook : GoodIn wsX3_book (wsV RX3 76 RX3 yX3_canBook wsX3_canBook) := goodIn_app (goodIn_of _ (by decide +kernel)) ggX3_book_X3_canBook
set_option maxRecDepth 20000 in
theorem ggX3_book_X3_isClass : GoodIn wsX3_book wsX3_isClass := goodIn_r _ [14] (by decide +kernel) (by decide +kernel)
set_option maxRecDepth 20000 in
theorem gX3_book_X3_isClass : GoodIn wsX3_book (va_wsS RX3 50 yX3_isClass wsX3_isClass) := goodIn_app (goodIn_of _ (by decide +kernel)) ggX3_book_X3_isClass
set_option maxRecDepth 20000 in
theorem ggX3_book_X3_bookMovable : GoodIn wsX3_book wsX3_bookMovable := goodIn_r _ [18, 19, 6, 20, 21, 22, 4, 23, 24, 25, 26, 27, 11, 28, 29, 30, 31, 32, 33, 34, 35, 36, 37, 38, 39, 40, 41, 42, 43, 44, 45, 46, 47, 48, 49, 50, 51, 52, 53, 54, 55, 56, 57, 58, 59, 60, 61, 62, 63, 64, 65, 66, 67, 68, 69, 70, 71, 72, 73, 74, 75, 76, 77, 78, 79, 80, 81, 82, 83, 84, 85, 86, 87, 88, 89, 90, 91, 92, 93, 94, 95, 96, 97, 98, 99, 100, 101, 102, 103, 104, 105, 106, 107, 108, 109, 110, 111, 112, 113, 114, 115, 116, 117, 118, 119, 120, 121, 122, 123, 124, 125, 126, 127, 128, 129, 130, 131, 132, 133, 134, 135, 136, 137, 138, 139, 140, 141, 142, 143, 144, 145, 146, 147, 148, 149, 150, 151, 152, 153, 154, 155, 156, 157, 158, 159, 170, 171, 172, 173, 174, 175, 176, 177, 160, 161, 162, 163, 164, 165, 166, 167, 168, 169, 178, 179, 180, 181, 182, 183, 184, 185, 186, 187] (by decide +kernel) (by decide +kernel)
set_option maxRecDepth 20000 in
theorem gX3_book_X3_bookMovable : GoodIn wsX3_book (wsV RX3 80 RX3 yX3_bookMovable wsX3_bookMovable) := goodIn_app (goodIn_of _ (by decide +kernel)) ggX3_book_X3_bookMovable
set_option maxRecDepth 20000 in
theorem ggX3_agencyBook_X3_isAgency : GoodIn wsX3_agencyBook wsX3_isAgency := goodIn_r _ [4] (by decide +kernel) (by decide +kernel)
set_option maxRecDepth 20000 in
theorem gX3_agencyBook_X3_isAgency : GoodIn wsX3_agencyBook (va_wsS RX3 73 yX3_isAgency wsX3_isAgency) := goodIn_app (goodIn_of _ (by decide +kernel)) ggX3_agencyBook_X3_isAgency
set_option maxRecDepth 20000 in
theorem ggX3_agencyBook_X3_canBook : GoodIn wsX3_agencyBook wsX3_canBook := goodIn_r _ [8, 9, 10, 11, 12, 3, 13, 14, 169, 170, 171, 172, 173, 174, 175, 176, 177, 178] (by decide +kernel) (by decide +kernel)
set_option maxRecDepth 20000 in
theorem gX3_agencyBook_X3_canBook : GoodIn wsX3_agencyBook (wsV RX3 76 RX3 yX3_canBook wsX3_canBook) := goodIn_app (goodIn_of _ (by decide +kernel)) ggX3_agencyBook_X3_canBook
set_option maxRecDepth 20000 in
theorem ggX3_agencyBook_X3_isClass : GoodIn wsX3_agencyBook wsX3_isClass := goodIn_r _ [17] (by decide +kernel) (by decide +kernel)
set_option maxRecDepth 20000 in
theorem gX3_agencyBook_X3_isClass : GoodIn wsX3_agencyBook (va_wsS RX3 50 yX3_isClass wsX3_isClass) := goodIn_app (goodIn_of _ (by decide +kernel)) ggX3_agencyBook_X3_isClass
set_option maxRecDepth 20000 in
theorem ggX3_agencyBook_X3_isOverQuota : GoodIn wsX3_agencyBook wsX3_isOverQuota := goodIn_r _ [21, 9, 22, 23, 24, 25, 26, 27, 28, 29, 30, 31, 32, 33, 34, 35, 36, 169, 170, 171, 172, 173, 174, 175, 176, 177, 178, 179, 180, 181, 182, 183, 184, 185, 186] (by decide +kernel) (by decide +kernel)
set_option maxRecDepth 20000 in
theorem gX3_agencyBook_X3_isOverQuota : GoodIn wsX3_agencyBook (wsV RX3 84 RX3 yX3_isOverQuota wsX3_isOverQuota) := goodIn_app (goodIn_of _ (by decide +kernel)) ggX3_agencyBook_X3_isOverQuota
set_option maxRecDepth 20000 in
theorem ggX3_agencyBook_X3_bookMovable : GoodIn wsX3_agencyBook wsX3_bookMovable := goodIn_r _ [40, 41, 9, 42, 43, 44, 3, 45, 22, 46, 47, 28, 14, 48, 49, 50, 51, 52, 53, 54, 55, 56, 57, 58, 59, 60, 35, 36, 61, 62, 30, 63, 64, 65, 66, 67, 68, 69, 70, 71, 72, 73, 74, 75, 76, 77, 78, 79, 80, 81, 82, 83, 84, 85, 86, 87, 88, 89, 90, 91, 92, 93, 94, 95, 96, 97, 98, 99, 100, 101, 102, 103, 104, 105, 106, 107, 108, 109, 110, 111, 112, 113, 114, 115, 116, 117, 118, 119, 120, 121, 122, 123, 124, 125, 126, 127, 128, 129, 130, 131, 132, 133, 134, 135, 136, 137, 138, 139, 140, 141, 142, 143, 144, 145, 146, 147, 148, 149, 150, 151, 152, 153, 154, 155, 156, 157, 158, 159, 160, 161, 162, 163, 164, 165, 166, 167, 168, 25, 26, 27, 29, 31, 32, 33, 34, 179, 180, 181, 182, 183, 184, 185, 186, 169, 170, 171, 172, 173, 174, 175, 176, 177, 178, 187, 188, 189, 190, 191, 192, 193, 194, 195, 196] (by decide +kernel) (by decide +kernel)
set_option maxRecDepth 20000 in
theorem gX3_agencyBook_X3_bookMovable : GoodIn wsX3_agencyBook (wsV RX3 80 RX3 yX3_bookMovable wsX3_bookMovable) := goodIn_app (goodIn_of _ (by decide +kernel)) ggX3_agencyBook_X3_bookMovable
set_option maxRecDepth 20000 in
theorem ggX3_bookSeat_X2_find : GoodIn wsX3_bookSeat wsX2_find := goodIn_r _ [6, 7, 8, 9, 10, 5, 11, 12, 13, 14, 15, 16, 17, 18, 19, 20, 21, 99, 100, 101, 102, 103, 104, 105, 106, 107, 108] (by decide +kernel) (by decide +kernel)
set_option maxRecDepth 20000 in
theorem gX3_bookSeat_X2_find : GoodIn wsX3_bookSeat (wsV RX3 61 RX2 yX2_find wsX2_find) := goodIn_app (goodIn_of _ (by decide +kernel)) ggX3_bookSeat_X2_find
set_option maxRecDepth 20000 in
theorem ggX3_bookSeat_X3_canBook : GoodIn wsX3_bookSeat wsX3_canBook := goodIn_r _ [26, 27, 28, 29, 30, 25, 31, 32, 89, 90, 91, 92, 93, 94, 95, 96, 97, 98] (by decide +kernel) (by decide +kernel)
set_option maxRecDepth 20000 in
theorem gX3_bookSeat_X3_canBook : GoodIn wsX3_bookSeat (wsV RX3 76 RX3 yX3_canBook wsX3_canBook) := goodIn_app (goodIn_of _ (by decide +kernel)) ggX3_bookSeat_X3_canBook
set_option maxRecDepth 20000 in
theorem ggX3_bookSeat_X3_way : GoodIn wsX3_bookSeat wsX3_way := goodIn_r _ [35] (by decide +kernel) (by decide +kernel)
set_option maxRecDepth 20000 in
theorem gX3_bookSeat_X3_way : GoodIn wsX3_bookSeat (va_wsS RX3 87 yX3_way wsX3_way) := goodIn_app (goodIn_of _ (by decide +kernel)) ggX3_bookSeat_X3_way
set_option maxRecDepth 20000 in
theorem ggX3_bookSeat_X2_isFree : GoodIn wsX3_bookSeat wsX2_isFree := goodIn_r _ [39, 40, 41, 99, 100, 101, 102, 103, 104, 105, 106, 107, 108] (by decide +kernel) (by decide +kernel)
set_option maxRecDepth 20000 in
theorem gX3_bookSeat_X2_isFree : GoodIn wsX3_bookSeat (wsV RX3 90 RX2 yX2_isFree wsX2_isFree) := goodIn_app (goodIn_of _ (by decide +kernel)) ggX3_bookSeat_X2_isFree
set_option maxRecDepth 20000 in
theorem ggX3_bookSeat_X3_bookFixed : GoodIn wsX3_bookSeat wsX3_bookFixed := goodIn_r _ [45, 1, 46, 47, 48, 49, 50, 51, 25, 52, 53, 27, 54, 55, 56, 32, 57, 58, 59, 60, 61, 62, 63, 64, 65, 66, 67, 68, 69, 70, 71, 72, 73, 74, 75, 76, 77, 78, 79, 80, 81, 82, 83, 84, 85, 86, 87, 88, 33, 34, 35, 89, 90, 91, 92, 93, 94, 95, 96, 97, 98, 99, 100, 101, 102, 103, 104, 105, 106, 107, 108, 109, 110, 111, 112, 113, 114, 115, 116] (by decide +kernel) (by decide +kernel)
set_option maxRecDepth 20000 in
theorem gX3_bookSeat_X3_bookFixed : GoodIn wsX3_bookSeat (wsV RX3 94 RX3 yX3_bookFixed wsX3_bookFixed) := goodIn_app (goodIn_of _ (by decide +kernel)) ggX3_bookSeat_X3_bookFixed
set_option maxRecDepth 20000 in
theorem ggX3_bookGroup_X3_canBook : GoodIn wsX3_bookGroup wsX3_canBook := goodIn_r _ [7, 2, 8, 9, 10, 6, 11, 12, 89, 90, 91, 92, 93, 94, 95, 96, 97, 98] (by decide +kernel) (by decide +kernel)
set_option maxRecDepth 20000 in
theorem gX3_bookGroup_X3_canBook : GoodIn wsX3_bookGroup (wsV RX3 76 RX3 yX3_canBook wsX3_canBook) := goodIn_app (goodIn_of _ (by decide +kernel)) ggX3_bookGroup_X3_canBook
set_option maxRecDepth 20000 in
theorem ggX3_bookGroup_X3_isClass : GoodIn wsX3_bookGroup wsX3_isClass := goodIn_r _ [15] (by decide +kernel) (by decide +kernel)
set_option maxRecDepth 20000 in
theorem gX3_bookGroup_X3_isClass : GoodIn wsX3_bookGroup (va_wsS RX3 50 yX3_isClass wsX3_isClass) := goodIn_app (goodIn_of _ (by decide +kernel)) ggX3_bookGroup_X3_isClass
set_option maxRecDepth 20000 in
theorem ggX3_bookGroup_X3_way : GoodIn wsX3_bookGroup wsX3_way := goodIn_r _ [18] (by decide +kernel) (by decide +kernel)
set_option maxRecDepth 20000 in
theorem gX3_bookGroup_X3_way : GoodIn wsX3_bookGroup (va_wsS RX3 87 yX3_way wsX3_way) := goodIn_app (goodIn_of _ (by decide +kernel)) ggX3_bookGroup_X3_way
set_option maxRecDepth 20000 in
theorem ggX3_bookGroup_X2_coachWithFree : GoodIn wsX3_bookGroup wsX2_coachWithFree := goodIn_r _ [23, 24, 25, 26, 27, 28, 29, 22, 30, 31, 32, 99, 100, 101, 102, 103, 104, 105, 106, 107, 108] (by decide +kernel) (by decide +kernel)
set_option maxRecDepth 20000 in
theorem gX3_bookGroup_X2_coachWithFree : GoodIn wsX3_bookGroup (wsV RX3 98 RX2 yX2_coachWithFree wsX2_coachWithFree) := goodIn_app (goodIn_of _ (by decide +kernel)) ggX3_bookGroup_X2_coachWithFree
set_option maxRecDepth 20000 in
theorem ggX3_bookGroup_X2_firstOf : GoodIn wsX3_bookGroup wsX2_firstOf := goodIn_r _ [36, 25, 99, 100, 101, 102, 103, 104, 105, 106, 107, 108] (by decide +kernel) (by decide +kernel)
set_option maxRecDepth 20000 in
theorem gX3_bookGroup_X2_firstOf : GoodIn wsX3_bookGroup (wsV RX3 104 RX2 yX2_firstOf wsX2_firstOf) := goodIn_app (goodIn_of _ (by decide +kernel)) ggX3_bookGroup_X2_firstOf
set_option maxRecDepth 20000 in
theorem ggX3_bookGroup_X2_endOf : GoodIn wsX3_bookGroup wsX2_endOf := goodIn_r _ [40, 25, 99, 100, 101, 102, 103, 104, 105, 106, 107, 108] (by decide +kernel) (by decide +kernel)
set_option maxRecDepth 20000 in
theorem gX3_bookGroup_X2_endOf : GoodIn wsX3_bookGroup (wsV RX3 108 RX2 yX2_endOf wsX2_endOf) := goodIn_app (goodIn_of _ (by decide +kernel)) ggX3_bookGroup_X2_endOf
set_option maxRecDepth 20000 in
theorem ggX3_bookGroup_X2_isFree : GoodIn wsX3_bookGroup wsX2_isFree := goodIn_r _ [30, 31, 32, 99, 100, 101, 102, 103, 104, 105, 106, 107, 108] (by decide +kernel) (by decide +kernel)
set_option maxRecDepth 20000 in
theorem gX3_bookGroup_X2_isFree : GoodIn wsX3_bookGroup (wsV RX3 90 RX2 yX2_isFree wsX2_isFree) := goodIn_app (goodIn_of _ (by decide +kernel)) ggX3_bookGroup_X2_isFree
set_option maxRecDepth 20000 in
theorem ggX3_bookGroup_X3_bookFixed : GoodIn wsX3_bookGroup wsX3_bookFixed := goodIn_r _ [45, 1, 46, 47, 48, 49, 50, 51, 6, 52, 53, 2, 54, 55, 56, 12, 57, 58, 59, 60, 61, 62, 63, 64, 65, 66, 67, 68, 69, 70, 71, 72, 73, 74, 75, 76, 77, 78, 79, 80, 81, 82, 83, 84, 85, 86, 87, 88, 16, 17, 18, 89, 90, 91, 92, 93, 94, 95, 96, 97, 98, 99, 100, 101, 102, 103, 104, 105, 106, 107, 108, 109, 110, 111, 112, 113, 114, 115, 116] (by decide +kernel) (by decide +kernel)
set_option maxRecDepth 20000 in
theorem gX3_bookGroup_X3_bookFixed : GoodIn wsX3_bookGroup (wsV RX3 94 RX3 yX3_bookFixed wsX3_bookFixed) := goodIn_app (goodIn_of _ (by decide +kernel)) ggX3_bookGroup_X3_bookFixed
set_option maxRecDepth 20000 in
theorem ggX3_offerChanges_X3_isWay : GoodIn wsX3_offerChanges wsX3_isWay := goodIn_r _ [5, 6, 37, 38, 39, 40, 41, 42, 43, 44, 45, 46] (by decide +kernel) (by decide +kernel)
set_option maxRecDepth 20000 in
theorem gX3_offerChanges_X3_isWay : GoodIn wsX3_offerChanges (wsV RX3 111 RX3 yX3_isWay wsX3_isWay) := goodIn_app (goodIn_of _ (by decide +kernel)) ggX3_offerChanges_X3_isWay
set_option maxRecDepth 20000 in
theorem ggX3_offerChanges_X3_isClass : GoodIn wsX3_offerChanges wsX3_isClass := goodIn_r _ [9] (by decide +kernel) (by decide +kernel)
set_option maxRecDepth 20000 in
theorem gX3_offerChanges_X3_isClass : GoodIn wsX3_offerChanges (va_wsS RX3 50 yX3_isClass wsX3_isClass) := goodIn_app (goodIn_of _ (by decide +kernel)) ggX3_offerChanges_X3_isClass
set_option maxRecDepth 20000 in
theorem ggX3_offerChanges_X3_fewestChanges : GoodIn wsX3_offerChanges wsX3_fewestChanges := goodIn_r _ [13, 14, 15, 16, 17, 18, 19, 20, 21, 22, 23, 24, 25, 26, 27, 28, 29, 30, 31, 32, 33, 34, 35, 36, 37, 38, 39, 40, 41, 42, 43, 44, 45, 46, 47, 48, 49, 50, 51, 52, 53, 54, 55, 56] (by decide +kernel) (by decide +kernel)
set_option maxRecDepth 20000 in
theorem gX3_offerChanges_X3_fewestChanges : GoodIn wsX3_offerChanges (wsV RX3 114 RX3 yX3_fewestChanges wsX3_fewestChanges) := goodIn_app (goodIn_of _ (by decide +kernel)) ggX3_offerChanges_X3_fewestChanges
set_option maxRecDepth 20000 in
theorem ggX3_bookChanges_X3_canBook : GoodIn wsX3_bookChanges wsX3_canBook := goodIn_r _ [8, 9, 10, 11, 12, 7, 13, 14, 99, 100, 101, 102, 103, 104, 105, 106, 107, 108] (by decide +kernel) (by decide +kernel)
set_option maxRecDepth 20000 in
theorem gX3_bookChanges_X3_canBook : GoodIn wsX3_bookChanges (wsV RX3 76 RX3 yX3_canBook wsX3_canBook) := goodIn_app (goodIn_of _ (by decide +kernel)) ggX3_bookChanges_X3_canBook
set_option maxRecDepth 20000 in
theorem ggX3_bookChanges_X3_isClass : GoodIn wsX3_bookChanges wsX3_isClass := goodIn_r _ [17] (by decide +kernel) (by decide +kernel)
set_option maxRecDepth 20000 in
theorem gX3_bookChanges_X3_isClass : GoodIn wsX3_bookChanges (va_wsS RX3 50 yX3_isClass wsX3_isClass) := goodIn_app (goodIn_of _ (by decide +kernel)) ggX3_bookChanges_X3_isClass
set_option maxRecDepth 20000 in
theorem ggX3_bookChanges_X3_fewestChanges : GoodIn wsX3_bookChanges wsX3_fewestChanges := goodIn_r _ [21, 2, 22, 23, 24, 25, 26, 27, 28, 29, 30, 31, 32, 33, 34, 35, 36, 37, 38, 39, 40, 41, 42, 43, 99, 100, 101, 102, 103, 104, 105, 106, 107, 108, 109, 110, 111, 112, 113, 114, 115, 116, 117, 118] (by decide +kernel) (by decide +kernel)
set_option maxRecDepth 20000 in
theorem gX3_bookChanges_X3_fewestChanges : GoodIn wsX3_bookChanges (wsV RX3 114 RX3 yX3_fewestChanges wsX3_fewestChanges) := goodIn_app (goodIn_of _ (by decide +kernel)) ggX3_bookChanges_X3_fewestChanges
set_option maxRecDepth 20000 in
theorem ggX3_bookChanges_X3_enter : GoodIn wsX3_bookChanges wsX3_enter := goodIn_r _ [47, 48, 9, 49, 50, 51, 14, 52, 53, 54, 55, 56, 57, 58, 59, 60, 61, 62, 63, 64, 65, 66, 67, 68, 69, 70, 71, 72, 73, 74, 99, 100, 101, 102, 103, 104, 105, 106, 107, 108, 91, 92, 93, 94, 95, 96, 97, 98] (by decide +kernel) (by decide +kernel)
set_option maxRecDepth 20000 in
theorem gX3_bookChanges_X3_enter : GoodIn wsX3_bookChanges (wsV RX3 117 RX3 yX3_enter wsX3_enter) := goodIn_app (goodIn_of _ (by decide +kernel)) ggX3_bookChanges_X3_enter
set_option maxRecDepth 20000 in
theorem ggX3_bookChanges_X3_way : GoodIn wsX3_bookChanges wsX3_way := goodIn_r _ [77] (by decide +kernel) (by decide +kernel)
set_option maxRecDepth 20000 in
theorem gX3_bookChanges_X3_way : GoodIn wsX3_bookChanges (va_wsS RX3 87 yX3_way wsX3_way) := goodIn_app (goodIn_of _ (by decide +kernel)) ggX3_bookChanges_X3_way
