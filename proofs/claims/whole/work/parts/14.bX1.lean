/-! blocks of SeatDesk$Ride, by program out of javap's listing -/
def flX1 : Nat → Nat × Nat := fun x => match x with
  | 9 => (1, 0)
  | 15 => (1, 1)
  | 19 => (1, 2)
  | 22 => (1, 3)
  | 25 => (1, 4)
  | 28 => (1, 5)
  | 31 => (1, 6)
  | 34 => (1, 7)
  | _ => (0, 0)
def nwX1 : Nat → Nat := fun x => match x with
  | _ => 0
theorem flX1_9 : flX1 9 = (1, 0) := rfl
theorem flX1_15 : flX1 15 = (1, 1) := rfl
theorem flX1_19 : flX1 19 = (1, 2) := rfl
theorem flX1_22 : flX1 22 = (1, 3) := rfl
theorem flX1_25 : flX1 25 = (1, 4) := rfl
theorem flX1_28 : flX1 28 = (1, 5) := rfl
theorem flX1_31 : flX1 31 = (1, 6) := rfl
theorem flX1_34 : flX1 34 = (1, 7) := rfl
def bX1_init : List (Nat × List (Instr × Nat)) := [(0, [(.aload_n 0, 1), (.invokespecial 3, 3), (.aload_n 0, 1), (.iload_n 1, 1), (.putfield 9, 3), (.aload_n 0, 1), (.iload_n 2, 1), (.newarray .int, 2), (.putfield 15, 3), (.return_, 1)])]
set_option maxRecDepth 20000 in
theorem kX1_init : am_all cX1_init vwCl wsX1_init RX1 flX1 nwX1 true [1] bX1_init = true := by decide +kernel
def bX1_begin : List (Nat × List (Instr × Nat)) := [(0, [(.aload_n 0, 1), (.iload_n 1, 1), (.putfield 19, 3), (.aload_n 0, 1), (.iload_n 2, 1), (.putfield 22, 3), (.aload_n 0, 1), (.iload_n 3, 1), (.putfield 25, 3), (.aload_n 0, 1), (.iload 4, 2), (.putfield 28, 3), (.aload_n 0, 1), (.iconst 1, 1), (.putfield 31, 3), (.aload_n 0, 1), (.iconst 0, 1), (.putfield 34, 3), (.aload_n 0, 1), (.getfield 15, 3), (.iconst (-1), 1), (.invokestatic 38, 3), (.return_, 1)])]
set_option maxRecDepth 20000 in
theorem kX1_begin : am_all cX1_begin vwCl wsX1_begin RX1 flX1 nwX1 false [1] bX1_begin = true := by decide +kernel
def bX1_isAlive : List (Nat × List (Instr × Nat)) := [(0, [(.aload_n 0, 1), (.getfield 31, 3), (.ifCond .eq 7, 3), (.iconst 1, 1), (.goto 4, 3)]),
  (11, [(.iconst 0, 1)]),
  (12, [(.ireturn, 1)])]
set_option maxRecDepth 20000 in
theorem kX1_isAlive : am_all cX1_isAlive vwCl wsX1_isAlive RX1 flX1 nwX1 false [1] bX1_isAlive = true := by decide +kernel
def bX1_goesOn : List (Nat × List (Instr × Nat)) := [(0, [(.iload_n 1, 1), (.aload_n 0, 1), (.getfield 19, 3), (.if_icmp .lt 15, 3), (.iload_n 1, 1), (.aload_n 0, 1), (.getfield 22, 3), (.if_icmp .ge 7, 3), (.iconst 1, 1), (.goto 4, 3)]),
  (20, [(.iconst 0, 1)]),
  (21, [(.ireturn, 1)])]
set_option maxRecDepth 20000 in
theorem kX1_goesOn : am_all cX1_goesOn vwCl wsX1_goesOn RX1 flX1 nwX1 false [1] bX1_goesOn = true := by decide +kernel
def bX1_way : List (Nat × List (Instr × Nat)) := [(0, [(.aload_n 0, 1), (.getfield 19, 3), (.aload_n 0, 1), (.getfield 22, 3), (.invokestatic 44, 3), (.ireturn, 1)])]
set_option maxRecDepth 20000 in
theorem kX1_way : am_all cX1_way vwCl wsX1_way RX1 flX1 nwX1 false [1] bX1_way = true := by decide +kernel
def bX1_oneSeat : List (Nat × List (Instr × Nat)) := [(0, [(.aload_n 0, 1), (.getfield 15, 3), (.aload_n 0, 1), (.getfield 19, 3), (.iaload, 1), (.ireturn, 1)])]
set_option maxRecDepth 20000 in
theorem kX1_oneSeat : am_all cX1_oneSeat vwCl wsX1_oneSeat RX1 flX1 nwX1 false [1] bX1_oneSeat = true := by decide +kernel
def bX1_setPlaces : List (Nat × List (Instr × Nat)) := [(0, [(.iload_n 2, 1), (.istore 4, 2)]),
  (3, [(.iload 4, 2), (.iload_n 3, 1), (.if_icmp .ge 17, 3), (.aload_n 0, 1), (.getfield 15, 3), (.iload 4, 2), (.iload_n 1, 1), (.iastore, 1), (.iinc 4 1, 3), (.goto (-17), 3)]),
  (23, [(.return_, 1)])]
set_option maxRecDepth 20000 in
theorem kX1_setPlaces : am_all cX1_setPlaces vwCl wsX1_setPlaces RX1 flX1 nwX1 false [1] bX1_setPlaces = true := by decide +kernel
def bX1_changes : List (Nat × List (Instr × Nat)) := [(0, [(.iconst 0, 1), (.istore_n 1, 1), (.aload_n 0, 1), (.getfield 19, 3), (.iconst 1, 1), (.iadd, 1), (.istore_n 2, 1)]),
  (9, [(.iload_n 2, 1), (.aload_n 0, 1), (.getfield 22, 3), (.if_icmp .ge 29, 3), (.aload_n 0, 1), (.getfield 15, 3), (.iload_n 2, 1), (.iaload, 1), (.aload_n 0, 1), (.getfield 15, 3), (.iload_n 2, 1), (.iconst 1, 1), (.isub, 1), (.iaload, 1), (.if_icmp .eq 6, 3), (.iinc 1 1, 3)]),
  (37, [(.iinc 2 1, 3), (.goto (-31), 3)]),
  (43, [(.iload_n 1, 1), (.ireturn, 1)])]
set_option maxRecDepth 20000 in
theorem kX1_changes : am_all cX1_changes vwCl wsX1_changes RX1 flX1 nwX1 false [1] bX1_changes = true := by decide +kernel
