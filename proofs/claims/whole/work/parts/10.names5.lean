def wsX3_ridesOn : List Cond := .code yX3_ridesOn cX3_ridesOn 5 (some .int) :: ([.fieldLink RX3 101 "SeatDesk" "rideCount" "I", .fieldLink RX3 31 "SeatDesk" "rides" "[LSeatDesk$Ride;", .fieldLink RX3 236 "SeatDesk$Ride" "type" "I", .methodLink RX3 226 yX1_isAlive, .instanceMethod yX1_isAlive, .selects RX1 yX1_isAlive yX1_isAlive, .initialized RX1, .code yX1_isAlive cX1_isAlive 1 (some .boolean), .fieldLink RX1 31 "SeatDesk$Ride" "state" "I", .methodLink RX3 165 yX1_goesOn, .instanceMethod yX1_goesOn, .selects RX1 yX1_goesOn yX1_goesOn, .code yX1_goesOn cX1_goesOn 2 (some .boolean), .fieldLink RX1 19 "SeatDesk$Ride" "from" "I", .fieldLink RX1 22 "SeatDesk$Ride" "to" "I"] ++ wsX30 ++ wsX10)
set_option maxRecDepth 20000 in
theorem ggX3_load_X3_ridesOn : GoodIn wsX3_load wsX3_ridesOn := goodIn_r _ [13, 14, 15, 16, 17, 18, 19, 20, 21, 22, 23, 24, 25, 26, 27, 28, 29, 30, 31, 32, 33, 34, 35, 36, 37, 38, 39, 40, 41, 42, 43, 44, 45, 46] (by decide +kernel) (by decide +kernel)
set_option maxRecDepth 20000 in
theorem gX3_load_X3_ridesOn : GoodIn wsX3_load (wsV RX3 217 RX3 yX3_ridesOn wsX3_ridesOn) := goodIn_app (goodIn_of _ (by decide +kernel)) ggX3_load_X3_ridesOn
set_option maxRecDepth 20000 in
theorem ggX3_ridesOn_X1_isAlive : GoodIn wsX3_ridesOn wsX1_isAlive := goodIn_r _ [8, 9, 26, 27, 28, 29, 30, 31, 32, 33] (by decide +kernel) (by decide +kernel)
set_option maxRecDepth 20000 in
theorem gX3_ridesOn_X1_isAlive : GoodIn wsX3_ridesOn (wsV RX3 226 RX1 yX1_isAlive wsX1_isAlive) := goodIn_app (goodIn_of _ (by decide +kernel)) ggX3_ridesOn_X1_isAlive
set_option maxRecDepth 20000 in
theorem ggX3_ridesOn_X1_goesOn : GoodIn wsX3_ridesOn wsX1_goesOn := goodIn_r _ [13, 14, 15, 26, 27, 28, 29, 30, 31, 32, 33] (by decide +kernel) (by decide +kernel)
set_option maxRecDepth 20000 in
theorem gX3_ridesOn_X1_goesOn : GoodIn wsX3_ridesOn (wsV RX3 165 RX1 yX1_goesOn wsX1_goesOn) := goodIn_app (goodIn_of _ (by decide +kernel)) ggX3_ridesOn_X1_goesOn
set_option maxRecDepth 20000 in
theorem ggX3_hasRoomByLoad_X3_ridesOn : GoodIn wsX3_hasRoomByLoad wsX3_ridesOn := goodIn_r _ [23, 24, 25, 26, 27, 28, 29, 30, 31, 32, 33, 34, 35, 36, 37, 38, 39, 40, 41, 42, 43, 44, 45, 46, 47, 48, 59, 60, 61, 62, 63, 64, 65, 66] (by decide +kernel) (by decide +kernel)
set_option maxRecDepth 20000 in
theorem gX3_hasRoomByLoad_X3_ridesOn : GoodIn wsX3_hasRoomByLoad (wsV RX3 217 RX3 yX3_ridesOn wsX3_ridesOn) := goodIn_app (goodIn_of _ (by decide +kernel)) ggX3_hasRoomByLoad_X3_ridesOn
