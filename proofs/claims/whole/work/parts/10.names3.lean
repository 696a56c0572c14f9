set_option maxRecDepth 20000 in
theorem ggX3_sit_X3_way : GoodIn wsX3_sit wsX3_way := goodIn_r _ [12] (by decide +kernel) (by decide +kernel)
set_option maxRecDepth 20000 in
theorem gX3_sit_X3_way : GoodIn wsX3_sit (va_wsS RX3 87 yX3_way wsX3_way) := goodIn_app (goodIn_of _ (by decide +kernel)) ggX3_sit_X3_way
set_option maxRecDepth 20000 in
theorem ggX3_leave_X3_way : GoodIn wsX3_leave wsX3_way := goodIn_r _ [7] (by decide +kernel) (by decide +kernel)
set_option maxRecDepth 20000 in
theorem gX3_leave_X3_way : GoodIn wsX3_leave (va_wsS RX3 87 yX3_way wsX3_way) := goodIn_app (goodIn_of _ (by decide +kernel)) ggX3_leave_X3_way
set_option maxRecDepth 20000 in
theorem ggX3_leave_X1_setPlaces : GoodIn wsX3_leave wsX1_setPlaces := goodIn_r _ [12, 13, 14, 15, 16, 17, 18, 19, 20, 21] (by decide +kernel) (by decide +kernel)
set_option maxRecDepth 20000 in
theorem gX3_leave_X1_setPlaces : GoodIn wsX3_leave (wsV RX3 259 RX1 yX1_setPlaces wsX1_setPlaces) := goodIn_app (goodIn_of _ (by decide +kernel)) ggX3_leave_X1_setPlaces
set_option maxRecDepth 20000 in
theorem ggX3_place_X2_best : GoodIn wsX3_place wsX2_best := goodIn_r _ [9, 10, 11, 12, 13, 14, 15, 16, 17, 18, 19, 20, 21, 22, 23, 24, 25, 26, 8, 27, 28, 29, 30, 31, 32, 33, 34, 35, 36, 37, 38, 39, 40, 41, 108, 109, 110, 111, 112, 113, 114, 115, 116, 117, 100, 101, 102, 103, 104, 105, 106, 107] (by decide +kernel) (by decide +kernel)
set_option maxRecDepth 20000 in
theorem gX3_place_X2_best : GoodIn wsX3_place (wsV RX3 263 RX2 yX2_best wsX2_best) := goodIn_app (goodIn_of _ (by decide +kernel)) ggX3_place_X2_best
set_option maxRecDepth 20000 in
theorem ggX3_place_X3_sweep : GoodIn wsX3_place wsX3_sweep := goodIn_r _ [45, 1, 46, 47, 48, 49, 50, 51, 52, 53, 54, 22, 55, 56, 57, 58, 3, 59, 2, 60, 61, 62, 63, 64, 65, 66, 67, 17, 68, 69, 19, 70, 15, 16, 18, 20, 21, 23, 71, 72, 73, 74, 75, 5, 6, 7, 8, 9, 10, 11, 12, 13, 14, 24, 25, 26, 27, 28, 29, 30, 31, 32, 33, 34, 35, 36, 37, 38, 39, 40, 41, 76, 77, 78, 79, 80, 4, 81, 82, 83, 84, 90, 91, 92, 93, 94, 95, 96, 97, 98, 99, 108, 109, 110, 111, 112, 113, 114, 115, 116, 117, 100, 101, 102, 103, 104, 105, 106, 107] (by decide +kernel) (by decide +kernel)
set_option maxRecDepth 20000 in
theorem gX3_place_X3_sweep : GoodIn wsX3_place (wsV RX3 194 RX3 yX3_sweep wsX3_sweep) := goodIn_app (goodIn_of _ (by decide +kernel)) ggX3_place_X3_sweep
set_option maxRecDepth 20000 in
theorem ggX3_place_X3_sit : GoodIn wsX3_place wsX3_sit := goodIn_r _ [88, 1, 46, 81, 82, 83, 17, 84, 69, 89, 21, 22, 23, 90, 91, 92, 93, 94, 95, 96, 97, 98, 99, 108, 109, 110, 111, 112, 113, 114, 115, 116, 117, 100, 101, 102, 103, 104, 105, 106, 107] (by decide +kernel) (by decide +kernel)
set_option maxRecDepth 20000 in
theorem gX3_place_X3_sit : GoodIn wsX3_place (wsV RX3 127 RX3 yX3_sit wsX3_sit) := goodIn_app (goodIn_of _ (by decide +kernel)) ggX3_place_X3_sit
set_option maxRecDepth 20000 in
theorem ggX3_sweep_X3_lineUp : GoodIn wsX3_sweep wsX3_lineUp := goodIn_r _ [12, 13, 14, 15, 16, 17, 18, 19, 81, 82, 83, 84, 85, 86, 87, 88, 89, 90, 101, 102, 103, 104, 105, 106, 107, 108] (by decide +kernel) (by decide +kernel)
set_option maxRecDepth 20000 in
theorem gX3_sweep_X3_lineUp : GoodIn wsX3_sweep (wsV RX3 267 RX3 yX3_lineUp wsX3_lineUp) := goodIn_app (goodIn_of _ (by decide +kernel)) ggX3_sweep_X3_lineUp
set_option maxRecDepth 20000 in
theorem ggX3_sweep_X3_standUp : GoodIn wsX3_sweep wsX3_standUp := goodIn_r _ [23, 19, 1, 2, 24, 25, 26, 27, 28, 29, 30, 31, 32, 33, 34, 35, 36, 11, 37, 81, 82, 83, 84, 85, 86, 87, 88, 89, 90, 91, 92, 93, 94, 95, 96, 97, 98, 99, 100, 101, 102, 103, 104, 105, 106, 107, 108] (by decide +kernel) (by decide +kernel)
set_option maxRecDepth 20000 in
theorem gX3_sweep_X3_standUp : GoodIn wsX3_sweep (wsV RX3 277 RX3 yX3_standUp wsX3_standUp) := goodIn_app (goodIn_of _ (by decide +kernel)) ggX3_sweep_X3_standUp
set_option maxRecDepth 20000 in
theorem ggX3_sweep_X3_findSeats : GoodIn wsX3_sweep wsX3_findSeats := goodIn_r _ [41, 1, 19, 42, 2, 43, 44, 45, 46, 47, 48, 49, 50, 51, 52, 32, 33, 27, 34, 30, 35, 36, 11, 37, 53, 54, 55, 56, 57, 58, 59, 60, 61, 62, 63, 64, 65, 66, 67, 68, 69, 70, 31, 81, 82, 83, 84, 85, 86, 87, 88, 89, 90, 91, 92, 93, 94, 95, 96, 97, 98, 99, 100, 101, 102, 103, 104, 105, 106, 107, 108] (by decide +kernel) (by decide +kernel)
set_option maxRecDepth 20000 in
theorem gX3_sweep_X3_findSeats : GoodIn wsX3_sweep (wsV RX3 280 RX3 yX3_findSeats wsX3_findSeats) := goodIn_app (goodIn_of _ (by decide +kernel)) ggX3_sweep_X3_findSeats
set_option maxRecDepth 20000 in
theorem ggX3_sweep_X3_settle : GoodIn wsX3_sweep wsX3_settle := goodIn_r _ [74, 19, 42, 75, 16, 76, 24, 25, 26, 27, 28, 29, 30, 77, 78, 79, 80, 81, 82, 83, 84, 85, 86, 87, 88, 89, 90, 101, 102, 103, 104, 105, 106, 107, 108] (by decide +kernel) (by decide +kernel)
set_option maxRecDepth 20000 in
theorem gX3_sweep_X3_settle : GoodIn wsX3_sweep (wsV RX3 283 RX3 yX3_settle wsX3_settle) := goodIn_app (goodIn_of _ (by decide +kernel)) ggX3_sweep_X3_settle
set_option maxRecDepth 20000 in
theorem ggX3_clearForWish_X3_lineUp : GoodIn wsX3_clearForWish wsX3_lineUp := goodIn_r _ [14, 15, 16, 17, 18, 19, 1, 20, 96, 97, 98, 99, 100, 101, 102, 103, 104, 105, 88, 89, 90, 91, 92, 93, 94, 95] (by decide +kernel) (by decide +kernel)
set_option maxRecDepth 20000 in
theorem gX3_clearForWish_X3_lineUp : GoodIn wsX3_clearForWish (wsV RX3 267 RX3 yX3_lineUp wsX3_lineUp) := goodIn_app (goodIn_of _ (by decide +kernel)) ggX3_clearForWish_X3_lineUp
set_option maxRecDepth 20000 in
theorem ggX3_clearForWish_X2_suits : GoodIn wsX3_clearForWish wsX2_suits := goodIn_r _ [25, 26, 27, 106, 107, 108, 109, 110, 111, 112, 113, 114, 115] (by decide +kernel) (by decide +kernel)
set_option maxRecDepth 20000 in
theorem gX3_clearForWish_X2_suits : GoodIn wsX3_clearForWish (wsV RX3 290 RX2 yX2_suits wsX2_suits) := goodIn_app (goodIn_of _ (by decide +kernel)) ggX3_clearForWish_X2_suits
set_option maxRecDepth 20000 in
theorem ggX3_clearForWish_X3_standUp : GoodIn wsX3_clearForWish wsX3_standUp := goodIn_r _ [31, 20, 2, 3, 32, 33, 34, 35, 36, 37, 38, 39, 40, 41, 42, 43, 44, 13, 45, 96, 97, 98, 99, 100, 101, 102, 103, 104, 105, 106, 107, 108, 109, 110, 111, 112, 113, 114, 115, 88, 89, 90, 91, 92, 93, 94, 95] (by decide +kernel) (by decide +kernel)
set_option maxRecDepth 20000 in
theorem gX3_clearForWish_X3_standUp : GoodIn wsX3_clearForWish (wsV RX3 277 RX3 yX3_standUp wsX3_standUp) := goodIn_app (goodIn_of _ (by decide +kernel)) ggX3_clearForWish_X3_standUp
set_option maxRecDepth 20000 in
theorem ggX3_clearForWish_X1_way : GoodIn wsX3_clearForWish wsX1_way := goodIn_r _ [42, 38, 43, 44, 13, 45, 88, 89, 90, 91, 92, 93, 94, 95] (by decide +kernel) (by decide +kernel)
set_option maxRecDepth 20000 in
theorem gX3_clearForWish_X1_way : GoodIn wsX3_clearForWish (wsV RX3 293 RX1 yX1_way wsX1_way) := goodIn_app (goodIn_of _ (by decide +kernel)) ggX3_clearForWish_X1_way
set_option maxRecDepth 20000 in
theorem ggX3_clearForWish_X2_isFree : GoodIn wsX3_clearForWish wsX2_isFree := goodIn_r _ [49, 50, 51, 106, 107, 108, 109, 110, 111, 112, 113, 114, 115] (by decide +kernel) (by decide +kernel)
set_option maxRecDepth 20000 in
theorem gX3_clearForWish_X2_isFree : GoodIn wsX3_clearForWish (wsV RX3 90 RX2 yX2_isFree wsX2_isFree) := goodIn_app (goodIn_of _ (by decide +kernel)) ggX3_clearForWish_X2_isFree
set_option maxRecDepth 20000 in
theorem ggX3_clearForWish_X3_findSeats : GoodIn wsX3_clearForWish wsX3_findSeats := goodIn_r _ [55, 2, 20, 56, 3, 57, 58, 59, 24, 60, 61, 26, 62, 63, 64, 40, 41, 35, 42, 38, 43, 44, 13, 45, 65, 47, 48, 49, 50, 51, 66, 67, 68, 69, 70, 71, 72, 73, 74, 75, 76, 77, 39, 96, 97, 98, 99, 100, 101, 102, 103, 104, 105, 106, 107, 108, 109, 110, 111, 112, 113, 114, 115, 88, 89, 90, 91, 92, 93, 94, 95] (by decide +kernel) (by decide +kernel)
set_option maxRecDepth 20000 in
theorem gX3_clearForWish_X3_findSeats : GoodIn wsX3_clearForWish (wsV RX3 280 RX3 yX3_findSeats wsX3_findSeats) := goodIn_app (goodIn_of _ (by decide +kernel)) ggX3_clearForWish_X3_findSeats
set_option maxRecDepth 20000 in
theorem ggX3_clearForWish_X3_settle : GoodIn wsX3_clearForWish wsX3_settle := goodIn_r _ [81, 20, 56, 82, 18, 83, 32, 33, 34, 35, 36, 37, 38, 84, 85, 86, 87, 96, 97, 98, 99, 100, 101, 102, 103, 104, 105, 88, 89, 90, 91, 92, 93, 94, 95] (by decide +kernel) (by decide +kernel)
set_option maxRecDepth 20000 in
theorem gX3_clearForWish_X3_settle : GoodIn wsX3_clearForWish (wsV RX3 283 RX3 yX3_settle wsX3_settle) := goodIn_app (goodIn_of _ (by decide +kernel)) ggX3_clearForWish_X3_settle
set_option maxRecDepth 20000 in
theorem ggX3_standUp_X1_oneSeat : GoodIn wsX3_standUp wsX1_oneSeat := goodIn_r _ [8, 9, 10, 39, 40, 41, 42, 43, 44, 45, 46] (by decide +kernel) (by decide +kernel)
set_option maxRecDepth 20000 in
theorem gX3_standUp_X1_oneSeat : GoodIn wsX3_standUp (wsV RX3 137 RX1 yX1_oneSeat wsX1_oneSeat) := goodIn_app (goodIn_of _ (by decide +kernel)) ggX3_standUp_X1_oneSeat
set_option maxRecDepth 20000 in
theorem ggX3_standUp_X1_way : GoodIn wsX3_standUp wsX1_way := goodIn_r _ [14, 10, 15, 16, 17, 18, 39, 40, 41, 42, 43, 44, 45, 46] (by decide +kernel) (by decide +kernel)
set_option maxRecDepth 20000 in
theorem gX3_standUp_X1_way : GoodIn wsX3_standUp (wsV RX3 293 RX1 yX1_way wsX1_way) := goodIn_app (goodIn_of _ (by decide +kernel)) ggX3_standUp_X1_way
set_option maxRecDepth 20000 in
theorem ggX3_findSeats_X2_best : GoodIn wsX3_findSeats wsX2_best := goodIn_r _ [9, 10, 11, 12, 13, 14, 15, 16, 17, 18, 19, 20, 21, 22, 23, 24, 25, 26, 8, 27, 28, 29, 30, 31, 32, 33, 34, 35, 36, 37, 38, 39, 40, 41, 53, 54, 55, 56, 57, 58, 59, 60, 61, 62, 63, 64, 65, 66, 67, 68, 69, 70] (by decide +kernel) (by decide +kernel)
set_option maxRecDepth 20000 in
theorem gX3_findSeats_X2_best : GoodIn wsX3_findSeats (wsV RX3 263 RX2 yX2_best wsX2_best) := goodIn_app (goodIn_of _ (by decide +kernel)) ggX3_findSeats_X2_best
set_option maxRecDepth 20000 in
theorem ggX3_findSeats_X1_way : GoodIn wsX3_findSeats wsX1_way := goodIn_r _ [18, 19, 20, 21, 22, 23, 63, 64, 65, 66, 67, 68, 69, 70] (by decide +kernel) (by decide +kernel)
set_option maxRecDepth 20000 in
theorem gX3_findSeats_X1_way : GoodIn wsX3_findSeats (wsV RX3 293 RX1 yX1_way wsX1_way) := goodIn_app (goodIn_of _ (by decide +kernel)) ggX3_findSeats_X1_way
set_option maxRecDepth 20000 in
theorem ggX3_settle_X1_oneSeat : GoodIn wsX3_settle wsX1_oneSeat := goodIn_r _ [10, 11, 12, 27, 28, 29, 30, 31, 32, 33, 34] (by decide +kernel) (by decide +kernel)
set_option maxRecDepth 20000 in
theorem gX3_settle_X1_oneSeat : GoodIn wsX3_settle (wsV RX3 137 RX1 yX1_oneSeat wsX1_oneSeat) := goodIn_app (goodIn_of _ (by decide +kernel)) ggX3_settle_X1_oneSeat
set_option maxRecDepth 20000 in
theorem ggX3_settle_X1_setPlaces : GoodIn wsX3_settle wsX1_setPlaces := goodIn_r _ [16, 11, 27, 28, 29, 30, 31, 32, 33, 34] (by decide +kernel) (by decide +kernel)
set_option maxRecDepth 20000 in
theorem gX3_settle_X1_setPlaces : GoodIn wsX3_settle (wsV RX3 259 RX1 yX1_setPlaces wsX1_setPlaces) := goodIn_app (goodIn_of _ (by decide +kernel)) ggX3_settle_X1_setPlaces
set_option maxRecDepth 20000 in
theorem ggX3_seatAnew_X3_place : GoodIn wsX3_seatAnew wsX3_place := goodIn_r _ [8, 9, 10, 11, 12, 13, 14, 15, 16, 17, 18, 19, 20, 21, 22, 23, 24, 25, 26, 27, 28, 29, 7, 30, 31, 32, 33, 34, 35, 36, 37, 38, 39, 40, 41, 42, 43, 44, 45, 46, 47, 48, 49, 50, 51, 52, 53, 54, 55, 56, 57, 58, 59, 60, 61, 62, 63, 1, 2, 3, 64, 65, 66, 67, 68, 69, 70, 71, 72, 73, 74, 75, 76, 77, 78, 79, 80, 81, 82, 83, 84, 85, 86, 87, 88, 89, 90, 91, 92, 93, 94, 95, 96, 97, 98, 99, 100, 101, 102, 103, 104, 105, 106, 107, 108, 109, 110, 111, 112, 113, 114, 115, 116, 117, 118, 119, 120, 121] (by decide +kernel) (by decide +kernel)
set_option maxRecDepth 20000 in
theorem gX3_seatAnew_X3_place : GoodIn wsX3_seatAnew (wsV RX3 246 RX3 yX3_place wsX3_place) := goodIn_app (goodIn_of _ (by decide +kernel)) ggX3_seatAnew_X3_place
set_option maxRecDepth 20000 in
theorem ggX3_hasSeatIn_X2_firstOf : GoodIn wsX3_hasSeatIn wsX2_firstOf := goodIn_r _ [9, 10, 33, 34, 35, 36, 37, 38, 39, 40, 41, 42] (by decide +kernel) (by decide +kernel)
set_option maxRecDepth 20000 in
theorem gX3_hasSeatIn_X2_firstOf : GoodIn wsX3_hasSeatIn (wsV RX3 104 RX2 yX2_firstOf wsX2_firstOf) := goodIn_app (goodIn_of _ (by decide +kernel)) ggX3_hasSeatIn_X2_firstOf
set_option maxRecDepth 20000 in
theorem ggX3_hasSeatIn_X2_endOf : GoodIn wsX3_hasSeatIn wsX2_endOf := goodIn_r _ [14, 10, 33, 34, 35, 36, 37, 38, 39, 40, 41, 42] (by decide +kernel) (by decide +kernel)
set_option maxRecDepth 20000 in
theorem gX3_hasSeatIn_X2_endOf : GoodIn wsX3_hasSeatIn (wsV RX3 108 RX2 yX2_endOf wsX2_endOf) := goodIn_app (goodIn_of _ (by decide +kernel)) ggX3_hasSeatIn_X2_endOf
set_option maxRecDepth 20000 in
theorem ggX3_fewestChanges_X2_longestFree : GoodIn wsX3_fewestChanges wsX2_longestFree := goodIn_r _ [6, 7, 8, 9, 10, 11, 5, 12, 13, 14, 15, 16, 17, 18, 19, 20, 21, 22, 34, 35, 36, 37, 38, 39, 40, 41, 42, 43] (by decide +kernel) (by decide +kernel)
set_option maxRecDepth 20000 in
theorem gX3_fewestChanges_X2_longestFree : GoodIn wsX3_fewestChanges (wsV RX3 124 RX2 yX2_longestFree wsX2_longestFree) := goodIn_app (goodIn_of _ (by decide +kernel)) ggX3_fewestChanges_X2_longestFree
set_option maxRecDepth 20000 in
theorem ggX3_fewestChanges_X2_spaceFrom : GoodIn wsX3_fewestChanges wsX2_spaceFrom := goodIn_r _ [12, 13, 14, 15, 16, 17, 18, 19, 20, 21, 22, 34, 35, 36, 37, 38, 39, 40, 41, 42, 43] (by decide +kernel) (by decide +kernel)
set_option maxRecDepth 20000 in
theorem gX3_fewestChanges_X2_spaceFrom : GoodIn wsX3_fewestChanges (wsV RX3 295 RX2 yX2_spaceFrom wsX2_spaceFrom) := goodIn_app (goodIn_of _ (by decide +kernel)) ggX3_fewestChanges_X2_spaceFrom
set_option maxRecDepth 20000 in
theorem ggX3_hasRoomByLoad_X2_countOf : GoodIn wsX3_hasRoomByLoad wsX2_countOf := goodIn_r _ [6, 7, 8, 9, 5, 10, 11, 12, 13, 14, 15, 16, 17, 18, 49, 50, 51, 52, 53, 54, 55, 56, 57, 58] (by decide +kernel) (by decide +kernel)
set_option maxRecDepth 20000 in
theorem gX3_hasRoomByLoad_X2_countOf : GoodIn wsX3_hasRoomByLoad (wsV RX3 298 RX2 yX2_countOf wsX2_countOf) := goodIn_app (goodIn_of _ (by decide +kernel)) ggX3_hasRoomByLoad_X2_countOf
set_option maxRecDepth 20000 in
theorem ggX3_isOverQuota_X1_isAlive : GoodIn wsX3_isOverQuota wsX1_isAlive := goodIn_r _ [9, 10, 27, 28, 29, 30, 31, 32, 33, 34] (by decide +kernel) (by decide +kernel)
set_option maxRecDepth 20000 in
theorem gX3_isOverQuota_X1_isAlive : GoodIn wsX3_isOverQuota (wsV RX3 226 RX1 yX1_isAlive wsX1_isAlive) := goodIn_app (goodIn_of _ (by decide +kernel)) ggX3_isOverQuota_X1_isAlive
set_option maxRecDepth 20000 in
theorem ggX3_isOverQuota_X1_goesOn : GoodIn wsX3_isOverQuota wsX1_goesOn := goodIn_r _ [14, 15, 16, 27, 28, 29, 30, 31, 32, 33, 34] (by decide +kernel) (by decide +kernel)
set_option maxRecDepth 20000 in
theorem gX3_isOverQuota_X1_goesOn : GoodIn wsX3_isOverQuota (wsV RX3 165 RX1 yX1_goesOn wsX1_goesOn) := goodIn_app (goodIn_of _ (by decide +kernel)) ggX3_isOverQuota_X1_goesOn
set_option maxRecDepth 20000 in
theorem ggX4_told_X4_coachOf : GoodIn wsX4_told wsX4_coachOf := goodIn_r _ [6, 1, 7, 8, 9, 10, 11, 12, 13, 14, 15, 16, 17, 18, 19, 20, 21, 22, 23, 24, 25, 26, 27, 28, 29] (by decide +kernel) (by decide +kernel)
set_option maxRecDepth 20000 in
theorem gX4_told_X4_coachOf : GoodIn wsX4_told (wsV RX4 81 RX4 yX4_coachOf wsX4_coachOf) := goodIn_app (goodIn_of _ (by decide +kernel)) ggX4_told_X4_coachOf
set_option maxRecDepth 20000 in
theorem ggX4_ofClass_X4_coachOf : GoodIn wsX4_ofClass wsX4_coachOf := goodIn_r _ [7, 8, 9, 10, 11, 12, 13, 14, 15, 16, 17, 18, 19, 20, 21, 22, 23, 24, 25, 26, 27, 28, 29, 30, 31] (by decide +kernel) (by decide +kernel)
set_option maxRecDepth 20000 in
theorem gX4_ofClass_X4_coachOf : GoodIn wsX4_ofClass (wsV RX4 81 RX4 yX4_coachOf wsX4_coachOf) := goodIn_app (goodIn_of _ (by decide +kernel)) ggX4_ofClass_X4_coachOf
set_option maxRecDepth 20000 in
theorem ggX4_freeAt_X4_blocked : GoodIn wsX4_freeAt wsX4_blocked := goodIn_r _ [5, 6, 7, 8, 9, 16, 17, 18, 19, 20, 21, 22, 23, 24, 25, 26, 27, 28, 29, 30, 31, 32, 33, 34, 35, 36, 37, 38] (by decide +kernel) (by decide +kernel)
set_option maxRecDepth 20000 in
theorem gX4_freeAt_X4_blocked : GoodIn wsX4_freeAt (wsV RX4 85 RX4 yX4_blocked wsX4_blocked) := goodIn_app (goodIn_of _ (by decide +kernel)) ggX4_freeAt_X4_blocked
set_option maxRecDepth 20000 in
theorem ggX4_freeAt_X4_rider : GoodIn wsX4_freeAt wsX4_rider := goodIn_r _ [13, 14, 15, 16, 17, 18, 19, 20, 21, 22, 23, 24, 25, 26, 27, 28, 29, 30, 31, 32, 33, 34, 35, 36, 37, 38] (by decide +kernel) (by decide +kernel)
set_option maxRecDepth 20000 in
theorem gX4_freeAt_X4_rider : GoodIn wsX4_freeAt (wsV RX4 89 RX4 yX4_rider wsX4_rider) := goodIn_app (goodIn_of _ (by decide +kernel)) ggX4_freeAt_X4_rider
set_option maxRecDepth 20000 in
theorem ggX4_freeThrough_X4_freeAt : GoodIn wsX4_freeThrough wsX4_freeAt := goodIn_r _ [5, 6, 7, 8, 4, 9, 10, 11, 12, 13, 14, 15, 16, 17, 18, 19, 20, 21, 22, 23, 24, 25, 26, 27, 28, 29, 30, 31, 32, 33, 34, 35, 36, 37, 38, 39, 40, 41, 42] (by decide +kernel) (by decide +kernel)
set_option maxRecDepth 20000 in
theorem gX4_freeThrough_X4_freeAt : GoodIn wsX4_freeThrough (wsV RX4 93 RX4 yX4_freeAt wsX4_freeAt) := goodIn_app (goodIn_of _ (by decide +kernel)) ggX4_freeThrough_X4_freeAt
set_option maxRecDepth 20000 in
theorem ggX4_spaceBehind_X4_freeAt : GoodIn wsX4_spaceBehind wsX4_freeAt := goodIn_r _ [6, 7, 8, 9, 5, 10, 11, 12, 13, 14, 15, 16, 17, 18, 19, 20, 21, 22, 23, 24, 25, 26, 27, 28, 29, 30, 31, 32, 33, 34, 35, 36, 37, 38, 39, 40, 41, 42, 43] (by decide +kernel) (by decide +kernel)
set_option maxRecDepth 20000 in
theorem gX4_spaceBehind_X4_freeAt : GoodIn wsX4_spaceBehind (wsV RX4 93 RX4 yX4_freeAt wsX4_freeAt) := goodIn_app (goodIn_of _ (by decide +kernel)) ggX4_spaceBehind_X4_freeAt
set_option maxRecDepth 20000 in
theorem ggX4_best_X4_ofClass : GoodIn wsX4_best wsX4_ofClass := goodIn_r _ [7, 8, 9, 10, 11, 12, 6, 13, 1, 41, 42, 43, 44, 45, 46, 47, 48, 49, 50, 51, 52, 53, 54, 55, 56, 57, 58, 59, 60, 61, 62, 63] (by decide +kernel) (by decide +kernel)
set_option maxRecDepth 20000 in
theorem gX4_best_X4_ofClass : GoodIn wsX4_best (wsV RX4 97 RX4 yX4_ofClass wsX4_ofClass) := goodIn_app (goodIn_of _ (by decide +kernel)) ggX4_best_X4_ofClass
set_option maxRecDepth 20000 in
theorem ggX4_best_X4_freeThrough : GoodIn wsX4_best wsX4_freeThrough := goodIn_r _ [17, 18, 19, 20, 6, 21, 22, 23, 24, 25, 26, 27, 28, 29, 30, 31, 32, 33, 34, 35, 41, 42, 43, 44, 45, 46, 47, 48, 49, 50, 51, 52, 53, 54, 55, 56, 57, 58, 59, 60, 61, 62, 63] (by decide +kernel) (by decide +kernel)
set_option maxRecDepth 20000 in
theorem gX4_best_X4_freeThrough : GoodIn wsX4_best (wsV RX4 100 RX4 yX4_freeThrough wsX4_freeThrough) := goodIn_app (goodIn_of _ (by decide +kernel)) ggX4_best_X4_freeThrough
set_option maxRecDepth 20000 in
theorem ggX4_best_X4_spaceBehind : GoodIn wsX4_best wsX4_spaceBehind := goodIn_r _ [39, 40, 18, 19, 20, 6, 21, 22, 23, 24, 25, 26, 27, 28, 29, 30, 31, 32, 33, 34, 35, 41, 42, 43, 44, 45, 46, 47, 48, 49, 50, 51, 52, 53, 54, 55, 56, 57, 58, 59, 60, 61, 62, 63] (by decide +kernel) (by decide +kernel)
set_option maxRecDepth 20000 in
theorem gX4_best_X4_spaceBehind : GoodIn wsX4_best (wsV RX4 104 RX4 yX4_spaceBehind wsX4_spaceBehind) := goodIn_app (goodIn_of _ (by decide +kernel)) ggX4_best_X4_spaceBehind
set_option maxRecDepth 20000 in
theorem ggX4_sweep_X4_standUp : GoodIn wsX4_sweep wsX4_standUp := goodIn_r _ [14, 3, 59, 60, 61, 62, 63, 64, 65, 66, 67, 68, 69, 70, 71, 72, 73, 74, 75, 76, 77, 78, 79, 80, 81] (by decide +kernel) (by decide +kernel)
set_option maxRecDepth 20000 in
theorem gX4_sweep_X4_standUp : GoodIn wsX4_sweep (wsV RX4 107 RX4 yX4_standUp wsX4_standUp) := goodIn_app (goodIn_of _ (by decide +kernel)) ggX4_sweep_X4_standUp
set_option maxRecDepth 20000 in
theorem ggX4_sweep_X4_best : GoodIn wsX4_sweep wsX4_best := goodIn_r _ [18, 19, 20, 21, 22, 23, 13, 24, 25, 26, 27, 28, 29, 30, 31, 32, 33, 34, 35, 36, 37, 38, 39, 40, 41, 42, 43, 44, 45, 46, 47, 48, 49, 50, 1, 3, 51, 52, 53, 54, 6, 59, 60, 61, 62, 63, 64, 65, 66, 67, 68, 69, 70, 71, 72, 73, 74, 75, 76, 77, 78, 79, 80, 81] (by decide +kernel) (by decide +kernel)
set_option maxRecDepth 20000 in
theorem gX4_sweep_X4_best : GoodIn wsX4_sweep (wsV RX4 111 RX4 yX4_best wsX4_best) := goodIn_app (goodIn_of _ (by decide +kernel)) ggX4_sweep_X4_best
set_option maxRecDepth 20000 in
theorem ggX4_sweep_X4_sit : GoodIn wsX4_sweep wsX4_sit := goodIn_r _ [58, 3, 7, 8, 59, 60, 61, 62, 63, 64, 65, 66, 67, 68, 69, 70, 71, 72, 73, 74, 75, 76, 77, 78, 79, 80, 81] (by decide +kernel) (by decide +kernel)
set_option maxRecDepth 20000 in
theorem gX4_sweep_X4_sit : GoodIn wsX4_sweep (wsV RX4 115 RX4 yX4_sit wsX4_sit) := goodIn_app (goodIn_of _ (by decide +kernel)) ggX4_sweep_X4_sit
set_option maxRecDepth 20000 in
theorem ggX4_place_X4_best : GoodIn wsX4_place wsX4_best := goodIn_r _ [8, 9, 10, 11, 12, 13, 7, 14, 15, 16, 17, 18, 19, 20, 21, 22, 23, 24, 25, 26, 27, 28, 29, 30, 31, 32, 33, 34, 35, 36, 37, 38, 39, 40, 41, 42, 43, 44, 45, 46, 47, 63, 64, 65, 66, 67, 68, 69, 70, 71, 72, 73, 74, 75, 76, 77, 78, 79, 80, 81, 82, 83, 84, 85] (by decide +kernel) (by decide +kernel)
set_option maxRecDepth 20000 in
theorem gX4_place_X4_best : GoodIn wsX4_place (wsV RX4 111 RX4 yX4_best wsX4_best) := goodIn_app (goodIn_of _ (by decide +kernel)) ggX4_place_X4_best
set_option maxRecDepth 20000 in
theorem ggX4_place_X4_sit : GoodIn wsX4_place wsX4_sit := goodIn_r _ [51, 42, 1, 2, 63, 64, 65, 66, 67, 68, 69, 70, 71, 72, 73, 74, 75, 76, 77, 78, 79, 80, 81, 82, 83, 84, 85] (by decide +kernel) (by decide +kernel)
set_option maxRecDepth 20000 in
theorem gX4_place_X4_sit : GoodIn wsX4_place (wsV RX4 115 RX4 yX4_sit wsX4_sit) := goodIn_app (goodIn_of _ (by decide +kernel)) ggX4_place_X4_sit
set_option maxRecDepth 20000 in
theorem ggX4_place_X4_sweep : GoodIn wsX4_place wsX4_sweep := goodIn_r _ [55, 41, 56, 42, 57, 3, 47, 1, 2, 58, 59, 60, 61, 7, 62, 4, 5, 6, 8, 9, 10, 11, 12, 13, 14, 15, 16, 17, 18, 19, 20, 21, 22, 23, 24, 25, 26, 27, 28, 29, 30, 31, 32, 33, 34, 35, 36, 37, 38, 39, 40, 43, 44, 45, 46, 48, 49, 50, 51, 63, 64, 65, 66, 67, 68, 69, 70, 71, 72, 73, 74, 75, 76, 77, 78, 79, 80, 81, 82, 83, 84, 85] (by decide +kernel) (by decide +kernel)
set_option maxRecDepth 20000 in
theorem gX4_place_X4_sweep : GoodIn wsX4_place (wsV RX4 119 RX4 yX4_sweep wsX4_sweep) := goodIn_app (goodIn_of _ (by decide +kernel)) ggX4_place_X4_sweep
set_option maxRecDepth 20000 in
theorem ggX4_wrongRide_X4_way : GoodIn wsX4_wrongRide wsX4_way := goodIn_r _ [6, 7, 8, 9, 10, 11, 12, 13, 14, 15, 16, 17, 18, 19, 20, 21, 22, 23, 24, 25, 26, 27, 28, 29, 30] (by decide +kernel) (by decide +kernel)
set_option maxRecDepth 20000 in
theorem gX4_wrongRide_X4_way : GoodIn wsX4_wrongRide (wsV RX4 122 RX4 yX4_way wsX4_way) := goodIn_app (goodIn_of _ (by decide +kernel)) ggX4_wrongRide_X4_way
set_option maxRecDepth 20000 in
theorem ggX4_begin_X4_standUp : GoodIn wsX4_begin wsX4_standUp := goodIn_r _ [12, 13, 14, 15, 16, 17, 18, 19, 20, 21, 22, 23, 24, 25, 26, 27, 28, 29, 30, 31, 32, 33, 34, 35, 36] (by decide +kernel) (by decide +kernel)
set_option maxRecDepth 20000 in
theorem gX4_begin_X4_standUp : GoodIn wsX4_begin (wsV RX4 107 RX4 yX4_standUp wsX4_standUp) := goodIn_app (goodIn_of _ (by decide +kernel)) ggX4_begin_X4_standUp
set_option maxRecDepth 20000 in
theorem ggX4_seatsOf_X4_ofClass : GoodIn wsX4_seatsOf wsX4_ofClass := goodIn_r _ [7, 8, 9, 10, 11, 12, 6, 13, 1, 14, 15, 16, 17, 18, 19, 20, 21, 22, 23, 24, 25, 26, 27, 28, 29, 30, 31, 32, 33, 34, 35, 36] (by decide +kernel) (by decide +kernel)
set_option maxRecDepth 20000 in
theorem gX4_seatsOf_X4_ofClass : GoodIn wsX4_seatsOf (wsV RX4 97 RX4 yX4_ofClass wsX4_ofClass) := goodIn_app (goodIn_of _ (by decide +kernel)) ggX4_seatsOf_X4_ofClass
set_option maxRecDepth 20000 in
theorem ggX4_bookFor_X4_begin : GoodIn wsX4_bookFor wsX4_begin := goodIn_r _ [6, 1, 7, 8, 9, 10, 11, 12, 13, 14, 15, 5, 16, 17, 81, 82, 83, 84, 85, 86, 87, 88, 89, 90, 91, 92, 93, 94, 95, 96, 97, 98, 99, 100, 101, 102, 103] (by decide +kernel) (by decide +kernel)
set_option maxRecDepth 20000 in
theorem gX4_bookFor_X4_begin : GoodIn wsX4_bookFor (wsV RX4 125 RX4 yX4_begin wsX4_begin) := goodIn_app (goodIn_of _ (by decide +kernel)) ggX4_bookFor_X4_begin
set_option maxRecDepth 20000 in
theorem ggX4_bookFor_X4_place : GoodIn wsX4_bookFor wsX4_place := goodIn_r _ [21, 8, 9, 10, 22, 23, 24, 5, 25, 26, 27, 28, 29, 30, 31, 32, 33, 34, 35, 36, 37, 38, 39, 40, 41, 42, 43, 44, 45, 46, 47, 48, 49, 50, 51, 52, 53, 54, 55, 56, 57, 1, 17, 58, 59, 60, 61, 62, 63, 64, 65, 66, 67, 68, 69, 70, 71, 7, 72, 13, 14, 15, 16, 81, 82, 83, 84, 85, 86, 87, 88, 89, 90, 91, 92, 93, 94, 95, 96, 97, 98, 99, 100, 101, 102, 103] (by decide +kernel) (by decide +kernel)
set_option maxRecDepth 20000 in
theorem gX4_bookFor_X4_place : GoodIn wsX4_bookFor (wsV RX4 129 RX4 yX4_place wsX4_place) := goodIn_app (goodIn_of _ (by decide +kernel)) ggX4_bookFor_X4_place
set_option maxRecDepth 20000 in
theorem ggX4_bookFor_X4_countGoing : GoodIn wsX4_bookFor wsX4_countGoing := goodIn_r _ [76, 1, 7, 10, 8, 9, 81, 82, 83, 84, 85, 86, 87, 88, 89, 90, 91, 92, 93, 94, 95, 96, 97, 98, 99, 100, 101, 102, 103] (by decide +kernel) (by decide +kernel)
set_option maxRecDepth 20000 in
theorem gX4_bookFor_X4_countGoing : GoodIn wsX4_bookFor (wsV RX4 133 RX4 yX4_countGoing wsX4_countGoing) := goodIn_app (goodIn_of _ (by decide +kernel)) ggX4_bookFor_X4_countGoing
set_option maxRecDepth 20000 in
theorem ggX4_bookFor_X4_seatsOf : GoodIn wsX4_bookFor wsX4_seatsOf := goodIn_r _ [80, 26, 27, 28, 29, 30, 5, 31, 32, 33, 34, 35, 36, 37, 81, 82, 83, 84, 85, 86, 87, 88, 89, 90, 91, 92, 93, 94, 95, 96, 97, 98, 99, 100, 101, 102, 103] (by decide +kernel) (by decide +kernel)
set_option maxRecDepth 20000 in
theorem gX4_bookFor_X4_seatsOf : GoodIn wsX4_bookFor (wsV RX4 137 RX4 yX4_seatsOf wsX4_seatsOf) := goodIn_app (goodIn_of _ (by decide +kernel)) ggX4_bookFor_X4_seatsOf
set_option maxRecDepth 20000 in
theorem ggX4_freeUntil_X4_freeAt : GoodIn wsX4_freeUntil wsX4_freeAt := goodIn_r _ [5, 6, 7, 8, 4, 9, 10, 11, 12, 13, 14, 15, 16, 17, 18, 19, 20, 21, 22, 23, 24, 25, 26, 27, 28, 29, 30, 31, 32, 33, 34, 35, 36, 37, 38, 39, 40, 41, 42] (by decide +kernel) (by decide +kernel)
set_option maxRecDepth 20000 in
theorem gX4_freeUntil_X4_freeAt : GoodIn wsX4_freeUntil (wsV RX4 93 RX4 yX4_freeAt wsX4_freeAt) := goodIn_app (goodIn_of _ (by decide +kernel)) ggX4_freeUntil_X4_freeAt
set_option maxRecDepth 20000 in
theorem ggX4_longest_X4_ofClass : GoodIn wsX4_longest wsX4_ofClass := goodIn_r _ [8, 9, 10, 11, 12, 13, 7, 14, 1, 37, 38, 39, 40, 41, 42, 43, 44, 45, 46, 47, 48, 49, 50, 51, 52, 53, 54, 55, 56, 57, 58, 59] (by decide +kernel) (by decide +kernel)
set_option maxRecDepth 20000 in
theorem gX4_longest_X4_ofClass : GoodIn wsX4_longest (wsV RX4 97 RX4 yX4_ofClass wsX4_ofClass) := goodIn_app (goodIn_of _ (by decide +kernel)) ggX4_longest_X4_ofClass
set_option maxRecDepth 20000 in
theorem ggX4_longest_X4_freeUntil : GoodIn wsX4_longest wsX4_freeUntil := goodIn_r _ [18, 19, 20, 21, 7, 22, 23, 24, 25, 26, 27, 28, 29, 30, 31, 32, 33, 34, 35, 36, 37, 38, 39, 40, 41, 42, 43, 44, 45, 46, 47, 48, 49, 50, 51, 52, 53, 54, 55, 56, 57, 58, 59] (by decide +kernel) (by decide +kernel)
set_option maxRecDepth 20000 in
theorem gX4_longest_X4_freeUntil : GoodIn wsX4_longest (wsV RX4 140 RX4 yX4_freeUntil wsX4_freeUntil) := goodIn_app (goodIn_of _ (by decide +kernel)) ggX4_longest_X4_freeUntil
