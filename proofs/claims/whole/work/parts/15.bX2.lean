/-! blocks of SeatDesk$Seats, by program out of javap's listing -/
def flX2 : Nat → Nat × Nat := fun x => match x with
  | 9 => (2, 2)
  | 15 => (2, 3)
  | 18 => (2, 4)
  | 21 => (2, 5)
  | 24 => (2, 6)
  | 27 => (2, 8)
  | 31 => (2, 9)
  | 34 => (2, 0)
  | 38 => (2, 7)
  | 41 => (2, 1)
  | 66 => (1, 4)
  | 72 => (1, 3)
  | _ => (0, 0)
def nwX2 : Nat → Nat := fun x => match x with
  | _ => 0
theorem flX2_9 : flX2 9 = (2, 2) := rfl
theorem flX2_15 : flX2 15 = (2, 3) := rfl
theorem flX2_18 : flX2 18 = (2, 4) := rfl
theorem flX2_21 : flX2 21 = (2, 5) := rfl
theorem flX2_24 : flX2 24 = (2, 6) := rfl
theorem flX2_27 : flX2 27 = (2, 8) := rfl
theorem flX2_31 : flX2 31 = (2, 9) := rfl
theorem flX2_34 : flX2 34 = (2, 0) := rfl
theorem flX2_38 : flX2 38 = (2, 7) := rfl
theorem flX2_41 : flX2 41 = (2, 1) := rfl
theorem flX2_66 : flX2 66 = (1, 4) := rfl
theorem flX2_72 : flX2 72 = (1, 3) := rfl
def bX2_init : List (Nat × List (Instr × Nat)) := [(0, [(.aload_n 0, 1), (.invokespecial 3, 3), (.aload_n 0, 1), (.bipush 80, 2), (.newarray .int, 2), (.putfield 9, 3), (.aload_n 0, 1), (.bipush 80, 2), (.newarray .int, 2), (.putfield 15, 3), (.aload_n 0, 1), (.bipush 80, 2), (.newarray .int, 2), (.putfield 18, 3), (.aload_n 0, 1), (.bipush 80, 2), (.newarray .int, 2), (.putfield 21, 3), (.aload_n 0, 1), (.bipush 80, 2), (.newarray .int, 2), (.putfield 24, 3), (.aload_n 0, 1), (.bipush 8, 2), (.newarray .boolean, 2), (.putfield 27, 3), (.aload_n 0, 1), (.bipush 9, 2), (.newarray .int, 2), (.putfield 31, 3), (.aload_n 0, 1), (.iload_n 1, 1), (.putfield 34, 3), (.return_, 1)])]
set_option maxRecDepth 20000 in
theorem kX2_init : am_all cX2_init vwCl wsX2_init RX2 flX2 nwX2 true [2] bX2_init = true := by decide +kernel
def bX2_hasRoomFor : List (Nat × List (Instr × Nat)) := [(0, [(.aload_n 0, 1), (.getfield 38, 3), (.bipush 8, 2), (.if_icmp .ge 18, 3), (.aload_n 0, 1), (.getfield 41, 3), (.iload_n 1, 1), (.iadd, 1), (.bipush 80, 2), (.if_icmp .gt 7, 3), (.iconst 1, 1), (.goto 4, 3)]),
  (24, [(.iconst 0, 1)]),
  (25, [(.ireturn, 1)])]
set_option maxRecDepth 20000 in
theorem kX2_hasRoomFor : am_all cX2_hasRoomFor vwCl wsX2_hasRoomFor RX2 flX2 nwX2 false [2] bX2_hasRoomFor = true := by decide +kernel
def bX2_addCoach : List (Nat × List (Instr × Nat)) := [(0, [(.aload_n 0, 1), (.getfield 38, 3), (.istore_n 3, 1), (.iconst 0, 1), (.istore 4, 2)]),
  (8, [(.iload 4, 2), (.iload_n 2, 1), (.if_icmp .ge 45, 3), (.aload_n 0, 1), (.getfield 9, 3), (.aload_n 0, 1), (.getfield 41, 3), (.iload_n 1, 1), (.iastore, 1), (.aload_n 0, 1), (.getfield 15, 3), (.aload_n 0, 1), (.getfield 41, 3), (.bipush 100, 2), (.iload_n 3, 1), (.imul, 1), (.iload 4, 2), (.iadd, 1), (.iastore, 1), (.aload_n 0, 1), (.dup, 1), (.getfield 41, 3), (.iconst 1, 1), (.iadd, 1), (.putfield 41, 3), (.iinc 4 1, 3), (.goto (-45), 3)]),
  (56, [(.aload_n 0, 1), (.getfield 27, 3), (.iload_n 3, 1), (.iconst 1, 1), (.bastore, 1), (.aload_n 0, 1), (.dup, 1), (.getfield 38, 3), (.iconst 1, 1), (.iadd, 1), (.putfield 38, 3), (.aload_n 0, 1), (.getfield 31, 3), (.aload_n 0, 1), (.getfield 38, 3), (.aload_n 0, 1), (.getfield 41, 3), (.iastore, 1), (.iload_n 3, 1), (.ireturn, 1)])]
set_option maxRecDepth 20000 in
theorem kX2_addCoach : am_all cX2_addCoach vwCl wsX2_addCoach RX2 flX2 nwX2 false [2] bX2_addCoach = true := by decide +kernel
def bX2_isThere : List (Nat × List (Instr × Nat)) := [(0, [(.iload_n 1, 1), (.ifCond .lt 24, 3), (.iload_n 1, 1), (.aload_n 0, 1), (.getfield 38, 3), (.if_icmp .ge 16, 3), (.aload_n 0, 1), (.getfield 27, 3), (.iload_n 1, 1), (.baload, 1), (.ifCond .eq 7, 3), (.iconst 1, 1), (.goto 4, 3)]),
  (25, [(.iconst 0, 1)]),
  (26, [(.ireturn, 1)])]
set_option maxRecDepth 20000 in
theorem kX2_isThere : am_all cX2_isThere vwCl wsX2_isThere RX2 flX2 nwX2 false [2] bX2_isThere = true := by decide +kernel
def bX2_firstOf : List (Nat × List (Instr × Nat)) := [(0, [(.aload_n 0, 1), (.getfield 31, 3), (.iload_n 1, 1), (.iaload, 1), (.ireturn, 1)])]
set_option maxRecDepth 20000 in
theorem kX2_firstOf : am_all cX2_firstOf vwCl wsX2_firstOf RX2 flX2 nwX2 false [2] bX2_firstOf = true := by decide +kernel
def bX2_endOf : List (Nat × List (Instr × Nat)) := [(0, [(.aload_n 0, 1), (.getfield 31, 3), (.iload_n 1, 1), (.iconst 1, 1), (.iadd, 1), (.iaload, 1), (.ireturn, 1)])]
set_option maxRecDepth 20000 in
theorem kX2_endOf : am_all cX2_endOf vwCl wsX2_endOf RX2 flX2 nwX2 false [2] bX2_endOf = true := by decide +kernel
def bX2_dropCoach : List (Nat × List (Instr × Nat)) := [(0, [(.aload_n 0, 1), (.getfield 27, 3), (.iload_n 1, 1), (.iconst 0, 1), (.bastore, 1), (.aload_n 0, 1), (.getfield 31, 3), (.iload_n 1, 1), (.iaload, 1), (.istore_n 2, 1)]),
  (14, [(.iload_n 2, 1), (.aload_n 0, 1), (.getfield 31, 3), (.iload_n 1, 1), (.iconst 1, 1), (.iadd, 1), (.iaload, 1), (.if_icmp .ge 16, 3), (.aload_n 0, 1), (.getfield 9, 3), (.iload_n 2, 1), (.iconst (-1), 1), (.iastore, 1), (.iinc 2 1, 3), (.goto (-22), 3)]),
  (39, [(.return_, 1)])]
set_option maxRecDepth 20000 in
theorem kX2_dropCoach : am_all cX2_dropCoach vwCl wsX2_dropCoach RX2 flX2 nwX2 false [2] bX2_dropCoach = true := by decide +kernel
def bX2_find : List (Nat × List (Instr × Nat)) := [(0, [(.aload_n 0, 1), (.iload_n 1, 1), (.invokevirtual 44, 3), (.ifCond .eq 22, 3), (.iload_n 2, 1), (.ifCond .lt 18, 3), (.iload_n 2, 1), (.aload_n 0, 1), (.iload_n 1, 1), (.invokevirtual 48, 3), (.aload_n 0, 1), (.iload_n 1, 1), (.invokevirtual 52, 3), (.isub, 1), (.if_icmp .lt 5, 3)]),
  (27, [(.iconst (-1), 1), (.ireturn, 1)]),
  (29, [(.aload_n 0, 1), (.getfield 31, 3), (.iload_n 1, 1), (.iaload, 1), (.iload_n 2, 1), (.iadd, 1), (.ireturn, 1)])]
set_option maxRecDepth 20000 in
theorem kX2_find : am_all cX2_find vwCl wsX2_find RX2 flX2 nwX2 false [2] bX2_find = true := by decide +kernel
def bX2_isFree : List (Nat × List (Instr × Nat)) := [(0, [(.aload_n 0, 1), (.getfield 21, 3), (.iload_n 1, 1), (.iaload, 1), (.aload_n 0, 1), (.getfield 24, 3), (.iload_n 1, 1), (.iaload, 1), (.ior, 1), (.iload_n 2, 1), (.iand, 1), (.ifCond .ne 7, 3), (.iconst 1, 1), (.goto 4, 3)]),
  (22, [(.iconst 0, 1)]),
  (23, [(.ireturn, 1)])]
set_option maxRecDepth 20000 in
theorem kX2_isFree : am_all cX2_isFree vwCl wsX2_isFree RX2 flX2 nwX2 false [2] bX2_isFree = true := by decide +kernel
def bX2_suits : List (Nat × List (Instr × Nat)) := [(0, [(.aload_n 0, 1), (.getfield 9, 3), (.iload_n 1, 1), (.iaload, 1), (.iload_n 2, 1), (.if_icmp .ne 19, 3), (.aload_n 0, 1), (.getfield 18, 3), (.iload_n 1, 1), (.iaload, 1), (.iload_n 3, 1), (.iand, 1), (.iload_n 3, 1), (.if_icmp .ne 7, 3), (.iconst 1, 1), (.goto 4, 3)]),
  (26, [(.iconst 0, 1)]),
  (27, [(.ireturn, 1)])]
set_option maxRecDepth 20000 in
theorem kX2_suits : am_all cX2_suits vwCl wsX2_suits RX2 flX2 nwX2 false [2] bX2_suits = true := by decide +kernel
def bX2_spaceFrom : List (Nat × List (Instr × Nat)) := [(0, [(.aload_n 0, 1), (.getfield 21, 3), (.iload_n 2, 1), (.iaload, 1), (.aload_n 0, 1), (.getfield 24, 3), (.iload_n 2, 1), (.iaload, 1), (.ior, 1), (.iconst 1, 1), (.aload_n 0, 1), (.getfield 34, 3), (.ishl, 1), (.ior, 1), (.iload_n 1, 1), (.iushr, 1), (.istore_n 3, 1), (.iload_n 3, 1), (.iload_n 3, 1), (.ineg, 1), (.iand, 1), (.iconst 1, 1), (.isub, 1), (.invokestatic 55, 3), (.ireturn, 1)])]
set_option maxRecDepth 20000 in
theorem kX2_spaceFrom : am_all cX2_spaceFrom vwCl wsX2_spaceFrom RX2 flX2 nwX2 false [2] bX2_spaceFrom = true := by decide +kernel
def bX2_best : List (Nat × List (Instr × Nat)) := [(0, [(.iconst (-1), 1), (.istore_n 2, 1), (.iconst 0, 1), (.istore_n 3, 1), (.aload_n 1, 1), (.invokevirtual 60, 3), (.istore 4, 2), (.iconst 0, 1), (.istore 5, 2)]),
  (13, [(.iload 5, 2), (.aload_n 0, 1), (.getfield 41, 3), (.if_icmp .ge 63, 3), (.aload_n 0, 1), (.getfield 9, 3), (.iload 5, 2), (.iaload, 1), (.aload_n 1, 1), (.getfield 66, 3), (.if_icmp .ne 43, 3), (.aload_n 0, 1), (.iload 5, 2), (.iload 4, 2), (.invokevirtual 68, 3), (.ifCond .eq 32, 3), (.aload_n 0, 1), (.aload_n 1, 1), (.getfield 72, 3), (.iload 5, 2), (.invokevirtual 75, 3), (.istore 6, 2), (.iload_n 2, 1), (.iconst (-1), 1), (.if_icmp .eq 9, 3), (.iload 6, 2), (.iload_n 3, 1), (.if_icmp .ge 9, 3)]),
  (70, [(.iload 5, 2), (.istore_n 2, 1), (.iload 6, 2), (.istore_n 3, 1)]),
  (76, [(.iinc 5 1, 3), (.goto (-66), 3)]),
  (82, [(.iload_n 2, 1), (.ireturn, 1)])]
set_option maxRecDepth 20000 in
theorem kX2_best : am_all cX2_best vwCl wsX2_best RX2 flX2 nwX2 false [1, 2] bX2_best = true := by decide +kernel
def bX2_longestFree : List (Nat × List (Instr × Nat)) := [(0, [(.iconst (-1), 1), (.istore_n 3, 1), (.iconst 0, 1), (.istore 4, 2), (.iconst 0, 1), (.istore 5, 2)]),
  (8, [(.iload 5, 2), (.aload_n 0, 1), (.getfield 41, 3), (.if_icmp .ge 47, 3), (.aload_n 0, 1), (.getfield 9, 3), (.iload 5, 2), (.iaload, 1), (.iload_n 2, 1), (.if_icmp .ne 13, 3), (.aload_n 0, 1), (.iload_n 1, 1), (.iload 5, 2), (.invokevirtual 75, 3), (.goto 4, 3)]),
  (38, [(.iconst 0, 1)]),
  (39, [(.istore 6, 2), (.iload 6, 2), (.iload 4, 2), (.if_icmp .le 10, 3), (.iload 5, 2), (.istore_n 3, 1), (.iload 6, 2), (.istore 4, 2)]),
  (55, [(.iinc 5 1, 3), (.goto (-50), 3)]),
  (61, [(.iload_n 3, 1), (.ireturn, 1)])]
set_option maxRecDepth 20000 in
theorem kX2_longestFree : am_all cX2_longestFree vwCl wsX2_longestFree RX2 flX2 nwX2 false [2] bX2_longestFree = true := by decide +kernel
def bX2_lowestFree : List (Nat × List (Instr × Nat)) := [(0, [(.aload_n 1, 1), (.invokevirtual 60, 3), (.istore_n 3, 1), (.iconst 0, 1), (.istore 4, 2)]),
  (8, [(.iload 4, 2), (.aload_n 0, 1), (.getfield 41, 3), (.if_icmp .ge 36, 3), (.aload_n 0, 1), (.iload 4, 2), (.aload_n 1, 1), (.getfield 66, 3), (.iload_n 2, 1), (.invokevirtual 79, 3), (.ifCond .eq 16, 3), (.aload_n 0, 1), (.iload 4, 2), (.iload_n 3, 1), (.invokevirtual 68, 3), (.ifCond .eq 6, 3), (.iload 4, 2), (.ireturn, 1)]),
  (44, [(.iinc 4 1, 3), (.goto (-39), 3)]),
  (50, [(.iconst (-1), 1), (.ireturn, 1)])]
set_option maxRecDepth 20000 in
theorem kX2_lowestFree : am_all cX2_lowestFree vwCl wsX2_lowestFree RX2 flX2 nwX2 false [1, 2] bX2_lowestFree = true := by decide +kernel
def bX2_coachWithFree : List (Nat × List (Instr × Nat)) := [(0, [(.iconst 0, 1), (.istore 4, 2)]),
  (3, [(.iload 4, 2), (.aload_n 0, 1), (.getfield 38, 3), (.if_icmp .ge 74, 3), (.iconst 0, 1), (.istore 5, 2), (.aload_n 0, 1), (.getfield 31, 3), (.iload 4, 2), (.iaload, 1), (.istore 6, 2)]),
  (24, [(.iload 6, 2), (.aload_n 0, 1), (.getfield 31, 3), (.iload 4, 2), (.iconst 1, 1), (.iadd, 1), (.iaload, 1), (.if_icmp .ge 33, 3), (.aload_n 0, 1), (.getfield 9, 3), (.iload 6, 2), (.iaload, 1), (.iload_n 1, 1), (.if_icmp .ne 16, 3), (.aload_n 0, 1), (.iload 6, 2), (.iload_n 2, 1), (.invokevirtual 68, 3), (.ifCond .eq 6, 3), (.iinc 5 1, 3)]),
  (62, [(.iinc 6 1, 3), (.goto (-41), 3)]),
  (68, [(.iload 5, 2), (.iload_n 3, 1), (.if_icmp .lt 6, 3), (.iload 4, 2), (.ireturn, 1)]),
  (77, [(.iinc 4 1, 3), (.goto (-77), 3)]),
  (83, [(.iconst (-1), 1), (.ireturn, 1)])]
set_option maxRecDepth 20000 in
theorem kX2_coachWithFree : am_all cX2_coachWithFree vwCl wsX2_coachWithFree RX2 flX2 nwX2 false [2] bX2_coachWithFree = true := by decide +kernel
def bX2_countFree : List (Nat × List (Instr × Nat)) := [(0, [(.iconst 0, 1), (.istore_n 3, 1), (.iconst 0, 1), (.istore 4, 2)]),
  (5, [(.iload 4, 2), (.aload_n 0, 1), (.getfield 41, 3), (.if_icmp .ge 33, 3), (.aload_n 0, 1), (.getfield 9, 3), (.iload 4, 2), (.iaload, 1), (.iload_n 2, 1), (.if_icmp .ne 16, 3), (.aload_n 0, 1), (.iload 4, 2), (.iload_n 1, 1), (.invokevirtual 68, 3), (.ifCond .eq 6, 3), (.iinc 3 1, 3)]),
  (38, [(.iinc 4 1, 3), (.goto (-36), 3)]),
  (44, [(.iload_n 3, 1), (.ireturn, 1)])]
set_option maxRecDepth 20000 in
theorem kX2_countFree : am_all cX2_countFree vwCl wsX2_countFree RX2 flX2 nwX2 false [2] bX2_countFree = true := by decide +kernel
def bX2_countOf : List (Nat × List (Instr × Nat)) := [(0, [(.aload_n 0, 1), (.iconst 0, 1), (.iload_n 1, 1), (.invokevirtual 83, 3), (.ireturn, 1)])]
set_option maxRecDepth 20000 in
theorem kX2_countOf : am_all cX2_countOf vwCl wsX2_countOf RX2 flX2 nwX2 false [] bX2_countOf = true := by decide +kernel
