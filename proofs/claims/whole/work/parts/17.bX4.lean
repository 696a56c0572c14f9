/-! blocks of SeatDeskModel, by program out of javap's listing -/
def flX4 : Nat → Nat × Nat := fun x => match x with
  | 7 => (4, 0)
  | 13 => (4, 1)
  | 16 => (4, 2)
  | 19 => (4, 3)
  | 23 => (4, 4)
  | 26 => (4, 5)
  | 30 => (4, 6)
  | 33 => (4, 7)
  | 36 => (4, 8)
  | 39 => (4, 9)
  | 42 => (4, 10)
  | 45 => (4, 11)
  | 48 => (4, 12)
  | 51 => (4, 13)
  | 54 => (4, 14)
  | 57 => (4, 15)
  | 60 => (4, 16)
  | 63 => (4, 17)
  | 66 => (4, 18)
  | 69 => (4, 19)
  | 72 => (4, 20)
  | 75 => (4, 21)
  | 78 => (4, 22)
  | _ => (0, 0)
def nwX4 : Nat → Nat := fun x => match x with
  | _ => 0
theorem flX4_7 : flX4 7 = (4, 0) := rfl
theorem flX4_13 : flX4 13 = (4, 1) := rfl
theorem flX4_16 : flX4 16 = (4, 2) := rfl
theorem flX4_19 : flX4 19 = (4, 3) := rfl
theorem flX4_23 : flX4 23 = (4, 4) := rfl
theorem flX4_26 : flX4 26 = (4, 5) := rfl
theorem flX4_30 : flX4 30 = (4, 6) := rfl
theorem flX4_33 : flX4 33 = (4, 7) := rfl
theorem flX4_36 : flX4 36 = (4, 8) := rfl
theorem flX4_39 : flX4 39 = (4, 9) := rfl
theorem flX4_42 : flX4 42 = (4, 10) := rfl
theorem flX4_45 : flX4 45 = (4, 11) := rfl
theorem flX4_48 : flX4 48 = (4, 12) := rfl
theorem flX4_51 : flX4 51 = (4, 13) := rfl
theorem flX4_54 : flX4 54 = (4, 14) := rfl
theorem flX4_57 : flX4 57 = (4, 15) := rfl
theorem flX4_60 : flX4 60 = (4, 16) := rfl
theorem flX4_63 : flX4 63 = (4, 17) := rfl
theorem flX4_66 : flX4 66 = (4, 18) := rfl
theorem flX4_69 : flX4 69 = (4, 19) := rfl
theorem flX4_72 : flX4 72 = (4, 20) := rfl
theorem flX4_75 : flX4 75 = (4, 21) := rfl
theorem flX4_78 : flX4 78 = (4, 22) := rfl
def bX4_init : List (Nat × List (Instr × Nat)) := [(0, [(.aload_n 0, 1), (.invokespecial 1, 3), (.aload_n 0, 1), (.iconst 0, 1), (.putfield 7, 3), (.aload_n 0, 1), (.bipush 10, 2), (.putfield 13, 3), (.aload_n 0, 1), (.iconst 0, 1), (.putfield 16, 3), (.aload_n 0, 1), (.bipush 9, 2), (.newarray .int, 2), (.putfield 19, 3), (.aload_n 0, 1), (.bipush 8, 2), (.newarray .int, 2), (.putfield 23, 3), (.aload_n 0, 1), (.bipush 8, 2), (.newarray .boolean, 2), (.putfield 26, 3), (.aload_n 0, 1), (.bipush 80, 2), (.newarray .int, 2), (.putfield 30, 3), (.aload_n 0, 1), (.bipush 116, 2), (.newarray .int, 2), (.putfield 33, 3), (.aload_n 0, 1), (.iconst 0, 1), (.putfield 36, 3), (.aload_n 0, 1), (.sipush 150, 3), (.newarray .int, 2), (.putfield 39, 3), (.aload_n 0, 1), (.sipush 150, 3), (.newarray .int, 2), (.putfield 42, 3), (.aload_n 0, 1), (.sipush 150, 3), (.newarray .int, 2), (.putfield 45, 3), (.aload_n 0, 1), (.sipush 150, 3), (.newarray .int, 2), (.putfield 48, 3), (.aload_n 0, 1), (.sipush 150, 3), (.newarray .int, 2), (.putfield 51, 3), (.aload_n 0, 1), (.sipush 150, 3), (.newarray .boolean, 2), (.putfield 54, 3), (.aload_n 0, 1), (.sipush 4350, 3), (.newarray .int, 2), (.putfield 57, 3), (.aload_n 0, 1), (.sipush 4350, 3), (.newarray .int, 2), (.putfield 60, 3), (.aload_n 0, 1), (.iconst 0, 1), (.putfield 63, 3), (.aload_n 0, 1), (.sipush 600, 3), (.newarray .int, 2), (.putfield 66, 3), (.aload_n 0, 1), (.sipush 600, 3), (.newarray .int, 2), (.putfield 69, 3), (.aload_n 0, 1), (.sipush 600, 3), (.newarray .int, 2), (.putfield 72, 3), (.aload_n 0, 1), (.iconst 0, 1), (.putfield 75, 3), (.aload_n 0, 1), (.sipush 150, 3), (.newarray .boolean, 2), (.putfield 78, 3), (.iload_n 1, 1), (.iconst 2, 1), (.if_icmp .lt 14, 3), (.iload_n 1, 1), (.bipush 30, 2), (.if_icmp .gt 8, 3), (.aload_n 0, 1), (.iload_n 1, 1), (.putfield 13, 3)]),
  (199, [(.return_, 1)])]
set_option maxRecDepth 20000 in
theorem kX4_init : am_all cX4_init vwCl wsX4_init RX4 flX4 nwX4 true [4] bX4_init = true := by decide +kernel
def bX4_coachOf : List (Nat × List (Instr × Nat)) := [(0, [(.iconst 0, 1), (.istore_n 2, 1)]),
  (2, [(.iload_n 1, 1), (.aload_n 0, 1), (.getfield 19, 3), (.iload_n 2, 1), (.iconst 1, 1), (.iadd, 1), (.iaload, 1), (.if_icmp .lt 9, 3), (.iinc 2 1, 3), (.goto (-15), 3)]),
  (20, [(.iload_n 2, 1), (.ireturn, 1)])]
set_option maxRecDepth 20000 in
theorem kX4_coachOf : am_all cX4_coachOf vwCl wsX4_coachOf RX4 flX4 nwX4 false [4] bX4_coachOf = true := by decide +kernel
def bX4_told : List (Nat × List (Instr × Nat)) := [(0, [(.iload_n 1, 1), (.ifCond .ge 5, 3), (.iconst (-1), 1), (.ireturn, 1)]),
  (6, [(.aload_n 0, 1), (.iload_n 1, 1), (.invokevirtual 81, 3), (.istore_n 2, 1), (.bipush 100, 2), (.iload_n 2, 1), (.imul, 1), (.iload_n 1, 1), (.iadd, 1), (.aload_n 0, 1), (.getfield 19, 3), (.iload_n 2, 1), (.iaload, 1), (.isub, 1), (.ireturn, 1)])]
set_option maxRecDepth 20000 in
theorem kX4_told : am_all cX4_told vwCl wsX4_told RX4 flX4 nwX4 false [4] bX4_told = true := by decide +kernel
def bX4_seatIn : List (Nat × List (Instr × Nat)) := [(0, [(.iload_n 1, 1), (.ifCond .lt 43, 3), (.iload_n 1, 1), (.aload_n 0, 1), (.getfield 16, 3), (.if_icmp .ge 35, 3), (.aload_n 0, 1), (.getfield 26, 3), (.iload_n 1, 1), (.baload, 1), (.ifCond .ne 26, 3), (.iload_n 2, 1), (.ifCond .lt 22, 3), (.iload_n 2, 1), (.aload_n 0, 1), (.getfield 19, 3), (.iload_n 1, 1), (.iconst 1, 1), (.iadd, 1), (.iaload, 1), (.aload_n 0, 1), (.getfield 19, 3), (.iload_n 1, 1), (.iaload, 1), (.isub, 1), (.if_icmp .lt 5, 3)]),
  (44, [(.iconst (-1), 1), (.ireturn, 1)]),
  (46, [(.aload_n 0, 1), (.getfield 19, 3), (.iload_n 1, 1), (.iaload, 1), (.iload_n 2, 1), (.iadd, 1), (.ireturn, 1)])]
set_option maxRecDepth 20000 in
theorem kX4_seatIn : am_all cX4_seatIn vwCl wsX4_seatIn RX4 flX4 nwX4 false [4] bX4_seatIn = true := by decide +kernel
def bX4_ofClass : List (Nat × List (Instr × Nat)) := [(0, [(.aload_n 0, 1), (.iload_n 1, 1), (.invokevirtual 81, 3), (.istore_n 3, 1), (.aload_n 0, 1), (.getfield 26, 3), (.iload_n 3, 1), (.baload, 1), (.ifCond .ne 17, 3), (.aload_n 0, 1), (.getfield 23, 3), (.iload_n 3, 1), (.iaload, 1), (.iload_n 2, 1), (.if_icmp .ne 7, 3), (.iconst 1, 1), (.goto 4, 3)]),
  (29, [(.iconst 0, 1)]),
  (30, [(.ireturn, 1)])]
set_option maxRecDepth 20000 in
theorem kX4_ofClass : am_all cX4_ofClass vwCl wsX4_ofClass RX4 flX4 nwX4 false [4] bX4_ofClass = true := by decide +kernel
def bX4_blocked : List (Nat × List (Instr × Nat)) := [(0, [(.iconst 0, 1), (.istore_n 3, 1)]),
  (2, [(.iload_n 3, 1), (.aload_n 0, 1), (.getfield 63, 3), (.if_icmp .ge 41, 3), (.aload_n 0, 1), (.getfield 66, 3), (.iload_n 3, 1), (.iaload, 1), (.iload_n 1, 1), (.if_icmp .ne 25, 3), (.aload_n 0, 1), (.getfield 69, 3), (.iload_n 3, 1), (.iaload, 1), (.iload_n 2, 1), (.if_icmp .gt 15, 3), (.iload_n 2, 1), (.aload_n 0, 1), (.getfield 72, 3), (.iload_n 3, 1), (.iaload, 1), (.if_icmp .ge 5, 3), (.iconst 1, 1), (.ireturn, 1)]),
  (42, [(.iinc 3 1, 3), (.goto (-43), 3)]),
  (48, [(.iconst 0, 1), (.ireturn, 1)])]
set_option maxRecDepth 20000 in
theorem kX4_blocked : am_all cX4_blocked vwCl wsX4_blocked RX4 flX4 nwX4 false [4] bX4_blocked = true := by decide +kernel
def bX4_rider : List (Nat × List (Instr × Nat)) := [(0, [(.iconst 0, 1), (.istore 4, 2)]),
  (3, [(.iload 4, 2), (.aload_n 0, 1), (.getfield 36, 3), (.if_icmp .ge 34, 3), (.iload 4, 2), (.iload_n 3, 1), (.if_icmp .eq 22, 3), (.aload_n 0, 1), (.getfield 57, 3), (.bipush 29, 2), (.iload 4, 2), (.imul, 1), (.iload_n 2, 1), (.iadd, 1), (.iaload, 1), (.iload_n 1, 1), (.if_icmp .ne 6, 3), (.iload 4, 2), (.ireturn, 1)]),
  (37, [(.iinc 4 1, 3), (.goto (-37), 3)]),
  (43, [(.iconst (-1), 1), (.ireturn, 1)])]
set_option maxRecDepth 20000 in
theorem kX4_rider : am_all cX4_rider vwCl wsX4_rider RX4 flX4 nwX4 false [4] bX4_rider = true := by decide +kernel
def bX4_freeAt : List (Nat × List (Instr × Nat)) := [(0, [(.aload_n 0, 1), (.iload_n 1, 1), (.iload_n 2, 1), (.invokevirtual 85, 3), (.ifCond .ne 17, 3), (.aload_n 0, 1), (.iload_n 1, 1), (.iload_n 2, 1), (.iload_n 3, 1), (.invokevirtual 89, 3), (.ifCond .ge 7, 3), (.iconst 1, 1), (.goto 4, 3)]),
  (23, [(.iconst 0, 1)]),
  (24, [(.ireturn, 1)])]
set_option maxRecDepth 20000 in
theorem kX4_freeAt : am_all cX4_freeAt vwCl wsX4_freeAt RX4 flX4 nwX4 false [] bX4_freeAt = true := by decide +kernel
def bX4_freeThrough : List (Nat × List (Instr × Nat)) := [(0, [(.iload_n 2, 1), (.istore 5, 2)]),
  (3, [(.iload 5, 2), (.iload_n 3, 1), (.if_icmp .ge 23, 3), (.aload_n 0, 1), (.iload_n 1, 1), (.iload 5, 2), (.iload 4, 2), (.invokevirtual 93, 3), (.ifCond .ne 5, 3), (.iconst 0, 1), (.ireturn, 1)]),
  (23, [(.iinc 5 1, 3), (.goto (-23), 3)]),
  (29, [(.iconst 1, 1), (.ireturn, 1)])]
set_option maxRecDepth 20000 in
theorem kX4_freeThrough : am_all cX4_freeThrough vwCl wsX4_freeThrough RX4 flX4 nwX4 false [] bX4_freeThrough = true := by decide +kernel
def bX4_spaceBehind : List (Nat × List (Instr × Nat)) := [(0, [(.iconst 0, 1), (.istore 4, 2)]),
  (3, [(.iload_n 2, 1), (.iload 4, 2), (.iadd, 1), (.aload_n 0, 1), (.getfield 13, 3), (.iconst 1, 1), (.isub, 1), (.if_icmp .ge 22, 3), (.aload_n 0, 1), (.iload_n 1, 1), (.iload_n 2, 1), (.iload 4, 2), (.iadd, 1), (.iload_n 3, 1), (.invokevirtual 93, 3), (.ifCond .eq 9, 3), (.iinc 4 1, 3), (.goto (-29), 3)]),
  (35, [(.iload 4, 2), (.ireturn, 1)])]
set_option maxRecDepth 20000 in
theorem kX4_spaceBehind : am_all cX4_spaceBehind vwCl wsX4_spaceBehind RX4 flX4 nwX4 false [4] bX4_spaceBehind = true := by decide +kernel
def bX4_best : List (Nat × List (Instr × Nat)) := [(0, [(.iconst (-1), 1), (.istore 5, 2), (.iconst 0, 1), (.istore 6, 2), (.iconst 0, 1), (.istore 7, 2)]),
  (9, [(.iload 7, 2), (.aload_n 0, 1), (.getfield 19, 3), (.aload_n 0, 1), (.getfield 16, 3), (.iaload, 1), (.if_icmp .ge 63, 3), (.aload_n 0, 1), (.iload 7, 2), (.iload_n 3, 1), (.invokevirtual 97, 3), (.ifCond .eq 47, 3), (.aload_n 0, 1), (.iload 7, 2), (.iload_n 1, 1), (.iload_n 2, 1), (.iload 4, 2), (.invokevirtual 100, 3), (.ifCond .eq 34, 3), (.aload_n 0, 1), (.iload 7, 2), (.iload_n 2, 1), (.iload 4, 2), (.invokevirtual 104, 3), (.istore 8, 2), (.iload 5, 2), (.ifCond .lt 10, 3), (.iload 8, 2), (.iload 6, 2), (.if_icmp .ge 11, 3)]),
  (69, [(.iload 7, 2), (.istore 5, 2), (.iload 8, 2), (.istore 6, 2)]),
  (77, [(.iinc 7 1, 3), (.goto (-71), 3)]),
  (83, [(.iload 5, 2), (.ireturn, 1)])]
set_option maxRecDepth 20000 in
theorem kX4_best : am_all cX4_best vwCl wsX4_best RX4 flX4 nwX4 false [4] bX4_best = true := by decide +kernel
def bX4_sit : List (Nat × List (Instr × Nat)) := [(0, [(.iconst 0, 1), (.istore_n 3, 1)]),
  (2, [(.iload_n 3, 1), (.bipush 29, 2), (.if_icmp .ge 45, 3), (.aload_n 0, 1), (.getfield 57, 3), (.bipush 29, 2), (.iload_n 1, 1), (.imul, 1), (.iload_n 3, 1), (.iadd, 1), (.iload_n 3, 1), (.aload_n 0, 1), (.getfield 42, 3), (.iload_n 1, 1), (.iaload, 1), (.if_icmp .lt 17, 3), (.iload_n 3, 1), (.aload_n 0, 1), (.getfield 45, 3), (.iload_n 1, 1), (.iaload, 1), (.if_icmp .ge 7, 3), (.iload_n 2, 1), (.goto 4, 3)]),
  (42, [(.iconst (-1), 1)]),
  (43, [(.iastore, 1), (.iinc 3 1, 3), (.goto (-45), 3)]),
  (50, [(.return_, 1)])]
set_option maxRecDepth 20000 in
theorem kX4_sit : am_all cX4_sit vwCl wsX4_sit RX4 flX4 nwX4 false [4] bX4_sit = true := by decide +kernel
def bX4_standUp : List (Nat × List (Instr × Nat)) := [(0, [(.iconst 0, 1), (.istore_n 2, 1)]),
  (2, [(.iload_n 2, 1), (.bipush 29, 2), (.if_icmp .ge 21, 3), (.aload_n 0, 1), (.getfield 57, 3), (.bipush 29, 2), (.iload_n 1, 1), (.imul, 1), (.iload_n 2, 1), (.iadd, 1), (.iconst (-1), 1), (.iastore, 1), (.iinc 2 1, 3), (.goto (-21), 3)]),
  (26, [(.return_, 1)])]
set_option maxRecDepth 20000 in
theorem kX4_standUp : am_all cX4_standUp vwCl wsX4_standUp RX4 flX4 nwX4 false [4] bX4_standUp = true := by decide +kernel
def bX4_sweep : List (Nat × List (Instr × Nat)) := [(0, [(.iconst 0, 1), (.istore_n 3, 1)]),
  (2, [(.iload_n 3, 1), (.bipush 29, 2), (.aload_n 0, 1), (.getfield 36, 3), (.imul, 1), (.if_icmp .ge 21, 3), (.aload_n 0, 1), (.getfield 60, 3), (.iload_n 3, 1), (.aload_n 0, 1), (.getfield 57, 3), (.iload_n 3, 1), (.iaload, 1), (.iastore, 1), (.iinc 3 1, 3), (.goto (-26), 3)]),
  (31, [(.iconst 0, 1), (.istore_n 3, 1)]),
  (33, [(.iload_n 3, 1), (.aload_n 0, 1), (.getfield 36, 3), (.if_icmp .ge 34, 3), (.aload_n 0, 1), (.getfield 39, 3), (.iload_n 3, 1), (.iaload, 1), (.iconst 1, 1), (.if_icmp .ne 18, 3), (.aload_n 0, 1), (.getfield 48, 3), (.iload_n 3, 1), (.iaload, 1), (.iload_n 1, 1), (.if_icmp .ne 8, 3), (.aload_n 0, 1), (.iload_n 3, 1), (.invokevirtual 107, 3)]),
  (66, [(.iinc 3 1, 3), (.goto (-36), 3)]),
  (72, [(.iconst 1, 1), (.istore_n 3, 1), (.iconst 0, 1), (.istore 4, 2)]),
  (77, [(.iload 4, 2), (.aload_n 0, 1), (.getfield 13, 3), (.if_icmp .ge 110, 3), (.iload_n 3, 1), (.ifCond .eq 106, 3), (.iconst 0, 1), (.istore 5, 2)]),
  (93, [(.iload 5, 2), (.aload_n 0, 1), (.getfield 36, 3), (.if_icmp .ge 88, 3), (.iload_n 3, 1), (.ifCond .eq 84, 3), (.aload_n 0, 1), (.getfield 39, 3), (.iload 5, 2), (.iaload, 1), (.iconst 1, 1), (.if_icmp .ne 67, 3), (.aload_n 0, 1), (.getfield 48, 3), (.iload 5, 2), (.iaload, 1), (.iload_n 1, 1), (.if_icmp .ne 56, 3), (.aload_n 0, 1), (.getfield 42, 3), (.iload 5, 2), (.iaload, 1), (.iload 4, 2), (.if_icmp .ne 44, 3), (.aload_n 0, 1), (.aload_n 0, 1), (.getfield 42, 3), (.iload 5, 2), (.iaload, 1), (.aload_n 0, 1), (.getfield 45, 3), (.iload 5, 2), (.iaload, 1), (.iload_n 1, 1), (.iload 5, 2), (.invokevirtual 111, 3), (.istore 6, 2), (.iload 6, 2), (.ifCond .ge 8, 3), (.iconst 0, 1), (.istore_n 3, 1), (.goto 11, 3)]),
  (173, [(.aload_n 0, 1), (.iload 5, 2), (.iload 6, 2), (.invokevirtual 115, 3)]),
  (181, [(.iinc 5 1, 3), (.goto (-91), 3)]),
  (187, [(.iinc 4 1, 3), (.goto (-113), 3)]),
  (193, [(.iload_n 3, 1), (.ifCond .ne 40, 3), (.iconst 0, 1), (.istore 4, 2)]),
  (200, [(.iload 4, 2), (.bipush 29, 2), (.aload_n 0, 1), (.getfield 36, 3), (.imul, 1), (.if_icmp .ge 23, 3), (.aload_n 0, 1), (.getfield 57, 3), (.iload 4, 2), (.aload_n 0, 1), (.getfield 60, 3), (.iload 4, 2), (.iaload, 1), (.iastore, 1), (.iinc 4 1, 3), (.goto (-29), 3)]),
  (232, [(.iconst 0, 1), (.ireturn, 1)]),
  (234, [(.iconst 0, 1), (.istore 4, 2)]),
  (237, [(.iload 4, 2), (.aload_n 0, 1), (.getfield 36, 3), (.if_icmp .ge 89, 3), (.bipush 29, 2), (.iload 4, 2), (.imul, 1), (.aload_n 0, 1), (.getfield 42, 3), (.iload 4, 2), (.iaload, 1), (.iadd, 1), (.istore 5, 2), (.iload 4, 2), (.iload_n 2, 1), (.if_icmp .eq 62, 3), (.aload_n 0, 1), (.getfield 39, 3), (.iload 4, 2), (.iaload, 1), (.iconst 1, 1), (.if_icmp .ne 51, 3), (.aload_n 0, 1), (.getfield 48, 3), (.iload 4, 2), (.iaload, 1), (.iload_n 1, 1), (.if_icmp .ne 40, 3), (.aload_n 0, 1), (.getfield 60, 3), (.iload 5, 2), (.iaload, 1), (.ifCond .lt 30, 3), (.aload_n 0, 1), (.getfield 60, 3), (.iload 5, 2), (.iaload, 1), (.aload_n 0, 1), (.getfield 57, 3), (.iload 5, 2), (.iaload, 1), (.if_icmp .eq 13, 3), (.aload_n 0, 1), (.dup, 1), (.getfield 75, 3), (.iconst 1, 1), (.iadd, 1), (.putfield 75, 3)]),
  (326, [(.iinc 4 1, 3), (.goto (-92), 3)]),
  (332, [(.iconst 1, 1), (.ireturn, 1)])]
set_option maxRecDepth 20000 in
theorem kX4_sweep : am_all cX4_sweep vwCl wsX4_sweep RX4 flX4 nwX4 false [4] bX4_sweep = true := by decide +kernel
def bX4_place : List (Nat × List (Instr × Nat)) := [(0, [(.aload_n 0, 1), (.aload_n 0, 1), (.getfield 42, 3), (.iload_n 1, 1), (.iaload, 1), (.aload_n 0, 1), (.getfield 45, 3), (.iload_n 1, 1), (.iaload, 1), (.aload_n 0, 1), (.getfield 48, 3), (.iload_n 1, 1), (.iaload, 1), (.iload_n 1, 1), (.invokevirtual 111, 3), (.istore_n 2, 1), (.iload_n 2, 1), (.ifCond .lt 11, 3), (.aload_n 0, 1), (.iload_n 1, 1), (.iload_n 2, 1), (.invokevirtual 115, 3), (.iconst 1, 1), (.ireturn, 1)]),
  (36, [(.aload_n 0, 1), (.aload_n 0, 1), (.getfield 48, 3), (.iload_n 1, 1), (.iaload, 1), (.iload_n 1, 1), (.invokevirtual 119, 3), (.ireturn, 1)])]
set_option maxRecDepth 20000 in
theorem kX4_place : am_all cX4_place vwCl wsX4_place RX4 flX4 nwX4 false [4] bX4_place = true := by decide +kernel
def bX4_way : List (Nat × List (Instr × Nat)) := [(0, [(.iload_n 1, 1), (.ifCond .lt 20, 3), (.iload_n 2, 1), (.aload_n 0, 1), (.getfield 13, 3), (.if_icmp .ge 12, 3), (.iload_n 1, 1), (.iload_n 2, 1), (.if_icmp .ge 7, 3), (.iconst 1, 1), (.goto 4, 3)]),
  (21, [(.iconst 0, 1)]),
  (22, [(.ireturn, 1)])]
set_option maxRecDepth 20000 in
theorem kX4_way : am_all cX4_way vwCl wsX4_way RX4 flX4 nwX4 false [4] bX4_way = true := by decide +kernel
def bX4_wrongRide : List (Nat × List (Instr × Nat)) := [(0, [(.aload_n 0, 1), (.iload_n 1, 1), (.iload_n 2, 1), (.invokevirtual 122, 3), (.ifCond .eq 25, 3), (.iload_n 3, 1), (.ifCond .lt 21, 3), (.iload_n 3, 1), (.iconst 1, 1), (.if_icmp .gt 16, 3), (.aload_n 0, 1), (.getfield 36, 3), (.iload 4, 2), (.iadd, 1), (.sipush 150, 3), (.if_icmp .le 7, 3)]),
  (31, [(.iconst 1, 1), (.goto 4, 3)]),
  (35, [(.iconst 0, 1)]),
  (36, [(.ireturn, 1)])]
set_option maxRecDepth 20000 in
theorem kX4_wrongRide : am_all cX4_wrongRide vwCl wsX4_wrongRide RX4 flX4 nwX4 false [4] bX4_wrongRide = true := by decide +kernel
def bX4_begin : List (Nat × List (Instr × Nat)) := [(0, [(.aload_n 0, 1), (.getfield 36, 3), (.istore 6, 2), (.aload_n 0, 1), (.dup, 1), (.getfield 36, 3), (.iconst 1, 1), (.iadd, 1), (.putfield 36, 3), (.aload_n 0, 1), (.getfield 39, 3), (.iload 6, 2), (.iload 5, 2), (.iastore, 1), (.aload_n 0, 1), (.getfield 42, 3), (.iload 6, 2), (.iload_n 1, 1), (.iastore, 1), (.aload_n 0, 1), (.getfield 45, 3), (.iload 6, 2), (.iload_n 2, 1), (.iastore, 1), (.aload_n 0, 1), (.getfield 48, 3), (.iload 6, 2), (.iload_n 3, 1), (.iastore, 1), (.aload_n 0, 1), (.getfield 51, 3), (.iload 6, 2), (.iload 4, 2), (.iastore, 1), (.aload_n 0, 1), (.getfield 54, 3), (.iload 6, 2), (.iconst 0, 1), (.bastore, 1), (.aload_n 0, 1), (.iload 6, 2), (.invokevirtual 107, 3), (.iload 6, 2), (.ireturn, 1)])]
set_option maxRecDepth 20000 in
theorem kX4_begin : am_all cX4_begin vwCl wsX4_begin RX4 flX4 nwX4 false [4] bX4_begin = true := by decide +kernel
def bX4_countGoing : List (Nat × List (Instr × Nat)) := [(0, [(.iconst 0, 1), (.istore_n 3, 1), (.iconst 0, 1), (.istore 4, 2)]),
  (5, [(.iload 4, 2), (.aload_n 0, 1), (.getfield 36, 3), (.if_icmp .ge 55, 3), (.aload_n 0, 1), (.getfield 39, 3), (.iload 4, 2), (.iaload, 1), (.ifCond .le 39, 3), (.aload_n 0, 1), (.getfield 48, 3), (.iload 4, 2), (.iaload, 1), (.iload_n 2, 1), (.if_icmp .ne 28, 3), (.aload_n 0, 1), (.getfield 42, 3), (.iload 4, 2), (.iaload, 1), (.iload_n 1, 1), (.if_icmp .gt 17, 3), (.iload_n 1, 1), (.aload_n 0, 1), (.getfield 45, 3), (.iload 4, 2), (.iaload, 1), (.if_icmp .ge 6, 3), (.iinc 3 1, 3)]),
  (60, [(.iinc 4 1, 3), (.goto (-58), 3)]),
  (66, [(.iload_n 3, 1), (.ireturn, 1)])]
set_option maxRecDepth 20000 in
theorem kX4_countGoing : am_all cX4_countGoing vwCl wsX4_countGoing RX4 flX4 nwX4 false [4] bX4_countGoing = true := by decide +kernel
def bX4_seatsOf : List (Nat × List (Instr × Nat)) := [(0, [(.iconst 0, 1), (.istore_n 2, 1), (.iconst 0, 1), (.istore_n 3, 1)]),
  (4, [(.iload_n 3, 1), (.aload_n 0, 1), (.getfield 19, 3), (.aload_n 0, 1), (.getfield 16, 3), (.iaload, 1), (.if_icmp .ge 21, 3), (.aload_n 0, 1), (.iload_n 3, 1), (.iload_n 1, 1), (.invokevirtual 97, 3), (.ifCond .eq 6, 3), (.iinc 2 1, 3)]),
  (29, [(.iinc 3 1, 3), (.goto (-28), 3)]),
  (35, [(.iload_n 2, 1), (.ireturn, 1)])]
set_option maxRecDepth 20000 in
theorem kX4_seatsOf : am_all cX4_seatsOf vwCl wsX4_seatsOf RX4 flX4 nwX4 false [4] bX4_seatsOf = true := by decide +kernel
def bX4_bookFor : List (Nat × List (Instr × Nat)) := [(0, [(.aload_n 0, 1), (.iload_n 2, 1), (.iload_n 3, 1), (.iload 4, 2), (.iload_n 1, 1), (.iconst 1, 1), (.invokevirtual 125, 3), (.istore 5, 2), (.aload_n 0, 1), (.iload 5, 2), (.invokevirtual 129, 3), (.ifCond .eq 6, 3), (.iload 5, 2), (.ireturn, 1)]),
  (24, [(.aload_n 0, 1), (.dup, 1), (.getfield 36, 3), (.iconst 1, 1), (.isub, 1), (.putfield 36, 3), (.iload_n 2, 1), (.istore 6, 2)]),
  (37, [(.iload 6, 2), (.iload_n 3, 1), (.if_icmp .ge 29, 3), (.aload_n 0, 1), (.iload 6, 2), (.iload 4, 2), (.invokevirtual 133, 3), (.aload_n 0, 1), (.iload 4, 2), (.invokevirtual 137, 3), (.if_icmp .lt 6, 3), (.bipush (-3), 2), (.ireturn, 1)]),
  (63, [(.iinc 6 1, 3), (.goto (-29), 3)]),
  (69, [(.bipush (-4), 2), (.ireturn, 1)])]
set_option maxRecDepth 20000 in
theorem kX4_bookFor : am_all cX4_bookFor vwCl wsX4_bookFor RX4 flX4 nwX4 false [4] bX4_bookFor = true := by decide +kernel
def bX4_over : List (Nat × List (Instr × Nat)) := [(0, [(.iload_n 2, 1), (.istore 4, 2)]),
  (3, [(.iload 4, 2), (.iload_n 3, 1), (.if_icmp .ge 96, 3), (.iconst 0, 1), (.istore 5, 2), (.iconst 0, 1), (.istore 6, 2)]),
  (15, [(.iload 6, 2), (.aload_n 0, 1), (.getfield 36, 3), (.if_icmp .ge 57, 3), (.aload_n 0, 1), (.getfield 39, 3), (.iload 6, 2), (.iaload, 1), (.ifCond .le 41, 3), (.aload_n 0, 1), (.getfield 51, 3), (.iload 6, 2), (.iaload, 1), (.iload_n 1, 1), (.if_icmp .ne 30, 3), (.aload_n 0, 1), (.getfield 42, 3), (.iload 6, 2), (.iaload, 1), (.iload 4, 2), (.if_icmp .gt 18, 3), (.iload 4, 2), (.aload_n 0, 1), (.getfield 45, 3), (.iload 6, 2), (.iaload, 1), (.if_icmp .ge 6, 3), (.iinc 5 1, 3)]),
  (72, [(.iinc 6 1, 3), (.goto (-60), 3)]),
  (78, [(.iload 5, 2), (.aload_n 0, 1), (.getfield 33, 3), (.iconst 4, 1), (.iload 4, 2), (.imul, 1), (.iload_n 1, 1), (.iadd, 1), (.iaload, 1), (.if_icmp .lt 5, 3), (.iconst 1, 1), (.ireturn, 1)]),
  (96, [(.iinc 4 1, 3), (.goto (-96), 3)]),
  (102, [(.iconst 0, 1), (.ireturn, 1)])]
set_option maxRecDepth 20000 in
theorem kX4_over : am_all cX4_over vwCl wsX4_over RX4 flX4 nwX4 false [4] bX4_over = true := by decide +kernel
def bX4_freeUntil : List (Nat × List (Instr × Nat)) := [(0, [(.iload_n 2, 1), (.istore 4, 2)]),
  (3, [(.iload 4, 2), (.iload_n 3, 1), (.if_icmp .ge 20, 3), (.aload_n 0, 1), (.iload_n 1, 1), (.iload 4, 2), (.iconst (-1), 1), (.invokevirtual 93, 3), (.ifCond .eq 9, 3), (.iinc 4 1, 3), (.goto (-20), 3)]),
  (26, [(.iload 4, 2), (.ireturn, 1)])]
set_option maxRecDepth 20000 in
theorem kX4_freeUntil : am_all cX4_freeUntil vwCl wsX4_freeUntil RX4 flX4 nwX4 false [] bX4_freeUntil = true := by decide +kernel
def bX4_longest : List (Nat × List (Instr × Nat)) := [(0, [(.iconst (-1), 1), (.istore_n 3, 1), (.iload_n 1, 1), (.istore 4, 2), (.iconst 0, 1), (.istore 5, 2)]),
  (8, [(.iload 5, 2), (.aload_n 0, 1), (.getfield 19, 3), (.aload_n 0, 1), (.getfield 16, 3), (.iaload, 1), (.if_icmp .ge 48, 3), (.aload_n 0, 1), (.iload 5, 2), (.iload_n 2, 1), (.invokevirtual 97, 3), (.ifCond .eq 32, 3), (.aload_n 0, 1), (.iload 5, 2), (.iload_n 1, 1), (.aload_n 0, 1), (.getfield 13, 3), (.iconst 1, 1), (.isub, 1), (.invokevirtual 140, 3), (.istore 6, 2), (.iload 6, 2), (.iload 4, 2), (.if_icmp .le 10, 3), (.iload 6, 2), (.istore 4, 2), (.iload 5, 2), (.istore_n 3, 1)]),
  (61, [(.iinc 5 1, 3), (.goto (-56), 3)]),
  (67, [(.iload_n 3, 1), (.ireturn, 1)])]
set_option maxRecDepth 20000 in
theorem kX4_longest : am_all cX4_longest vwCl wsX4_longest RX4 flX4 nwX4 false [4] bX4_longest = true := by decide +kernel
def bX4_fewest : List (Nat × List (Instr × Nat)) := [(0, [(.iload_n 1, 1), (.istore 4, 2), (.iconst 0, 1), (.istore 5, 2)]),
  (6, [(.iload 4, 2), (.iload_n 2, 1), (.if_icmp .ge 36, 3), (.aload_n 0, 1), (.iload 4, 2), (.iload_n 3, 1), (.invokevirtual 143, 3), (.istore 6, 2), (.iload 6, 2), (.ifCond .ge 5, 3), (.iconst (-1), 1), (.ireturn, 1)]),
  (28, [(.aload_n 0, 1), (.iload 6, 2), (.iload 4, 2), (.iload_n 2, 1), (.invokevirtual 140, 3), (.istore 4, 2), (.iinc 5 1, 3), (.goto (-36), 3)]),
  (45, [(.iload 5, 2), (.iconst 1, 1), (.isub, 1), (.ireturn, 1)])]
set_option maxRecDepth 20000 in
theorem kX4_fewest : am_all cX4_fewest vwCl wsX4_fewest RX4 flX4 nwX4 false [] bX4_fewest = true := by decide +kernel
def bX4_thrown : List (Nat × List (Instr × Nat)) := [(0, [(.aload_n 0, 1), (.getfield 7, 3), (.ireturn, 1)])]
set_option maxRecDepth 20000 in
theorem kX4_thrown : am_all cX4_thrown vwCl wsX4_thrown RX4 flX4 nwX4 false [4] bX4_thrown = true := by decide +kernel
def bX4_coach : List (Nat × List (Instr × Nat)) := [(0, [(.aload_n 0, 1), (.iconst 0, 1), (.putfield 7, 3), (.iload_n 1, 1), (.ifCond .lt 44, 3), (.iload_n 1, 1), (.iconst 1, 1), (.if_icmp .gt 39, 3), (.iload_n 2, 1), (.iconst 1, 1), (.if_icmp .lt 34, 3), (.iload_n 2, 1), (.bipush 20, 2), (.if_icmp .gt 28, 3), (.aload_n 0, 1), (.getfield 16, 3), (.bipush 8, 2), (.if_icmp .eq 19, 3), (.aload_n 0, 1), (.getfield 19, 3), (.aload_n 0, 1), (.getfield 16, 3), (.iaload, 1), (.iload_n 2, 1), (.iadd, 1), (.bipush 80, 2), (.if_icmp .le 6, 3)]),
  (50, [(.bipush (-2), 2), (.ireturn, 1)]),
  (53, [(.aload_n 0, 1), (.getfield 23, 3), (.aload_n 0, 1), (.getfield 16, 3), (.iload_n 1, 1), (.iastore, 1), (.aload_n 0, 1), (.getfield 19, 3), (.aload_n 0, 1), (.getfield 16, 3), (.iconst 1, 1), (.iadd, 1), (.aload_n 0, 1), (.getfield 19, 3), (.aload_n 0, 1), (.getfield 16, 3), (.iaload, 1), (.iload_n 2, 1), (.iadd, 1), (.iastore, 1), (.aload_n 0, 1), (.dup, 1), (.getfield 16, 3), (.iconst 1, 1), (.iadd, 1), (.putfield 16, 3), (.aload_n 0, 1), (.getfield 16, 3), (.iconst 1, 1), (.isub, 1), (.ireturn, 1)])]
set_option maxRecDepth 20000 in
theorem kX4_coach : am_all cX4_coach vwCl wsX4_coach RX4 flX4 nwX4 false [4] bX4_coach = true := by decide +kernel
def bX4_flags : List (Nat × List (Instr × Nat)) := [(0, [(.aload_n 0, 1), (.iconst 0, 1), (.putfield 7, 3), (.aload_n 0, 1), (.iload_n 1, 1), (.iload_n 2, 1), (.invokevirtual 146, 3), (.istore 4, 2), (.iload 4, 2), (.ifCond .lt 14, 3), (.iload_n 3, 1), (.ifCond .lt 10, 3), (.iload_n 3, 1), (.sipush 255, 3), (.if_icmp .le 5, 3)]),
  (29, [(.iconst 0, 1), (.ireturn, 1)]),
  (31, [(.aload_n 0, 1), (.getfield 30, 3), (.iload 4, 2), (.iload_n 3, 1), (.iastore, 1), (.iconst 1, 1), (.ireturn, 1)])]
set_option maxRecDepth 20000 in
theorem kX4_flags : am_all cX4_flags vwCl wsX4_flags RX4 flX4 nwX4 false [4] bX4_flags = true := by decide +kernel
def bX4_quota : List (Nat × List (Instr × Nat)) := [(0, [(.aload_n 0, 1), (.iconst 0, 1), (.putfield 7, 3), (.iload_n 1, 1), (.ifCond .lt 33, 3), (.iload_n 1, 1), (.aload_n 0, 1), (.getfield 13, 3), (.iconst 1, 1), (.isub, 1), (.if_icmp .ge 23, 3), (.iload_n 2, 1), (.ifCond .lt 19, 3), (.iload_n 2, 1), (.iconst 3, 1), (.if_icmp .gt 14, 3), (.iload_n 3, 1), (.ifCond .lt 10, 3), (.iload_n 3, 1), (.sipush 150, 3), (.if_icmp .le 5, 3)]),
  (39, [(.iconst 0, 1), (.ireturn, 1)]),
  (41, [(.aload_n 0, 1), (.getfield 33, 3), (.iconst 4, 1), (.iload_n 1, 1), (.imul, 1), (.iload_n 2, 1), (.iadd, 1), (.iload_n 3, 1), (.iastore, 1), (.iconst 1, 1), (.ireturn, 1)])]
set_option maxRecDepth 20000 in
theorem kX4_quota : am_all cX4_quota vwCl wsX4_quota RX4 flX4 nwX4 false [4] bX4_quota = true := by decide +kernel
def bX4_book : List (Nat × List (Instr × Nat)) := [(0, [(.aload_n 0, 1), (.iconst 0, 1), (.putfield 7, 3), (.aload_n 0, 1), (.iload_n 1, 1), (.iload_n 2, 1), (.iload_n 3, 1), (.iconst 1, 1), (.invokevirtual 149, 3), (.ifCond .eq 8, 3), (.bipush (-2), 2), (.goto 11, 3)]),
  (21, [(.aload_n 0, 1), (.iconst (-1), 1), (.iload_n 1, 1), (.iload_n 2, 1), (.iload_n 3, 1), (.invokevirtual 152, 3)]),
  (29, [(.ireturn, 1)])]
set_option maxRecDepth 20000 in
theorem kX4_book : am_all cX4_book vwCl wsX4_book RX4 flX4 nwX4 false [4] bX4_book = true := by decide +kernel
def bX4_agencyBook : List (Nat × List (Instr × Nat)) := [(0, [(.aload_n 0, 1), (.iconst 0, 1), (.putfield 7, 3), (.iload_n 1, 1), (.ifCond .lt 20, 3), (.iload_n 1, 1), (.iconst 3, 1), (.if_icmp .gt 15, 3), (.aload_n 0, 1), (.iload_n 2, 1), (.iload_n 3, 1), (.iload 4, 2), (.iconst 1, 1), (.invokevirtual 149, 3), (.ifCond .eq 6, 3)]),
  (26, [(.bipush (-2), 2), (.ireturn, 1)]),
  (29, [(.aload_n 0, 1), (.iload_n 1, 1), (.iload_n 2, 1), (.iload_n 3, 1), (.invokevirtual 155, 3), (.ifCond .eq 8, 3), (.bipush (-5), 2), (.goto 12, 3)]),
  (44, [(.aload_n 0, 1), (.iload_n 1, 1), (.iload_n 2, 1), (.iload_n 3, 1), (.iload 4, 2), (.invokevirtual 152, 3)]),
  (53, [(.ireturn, 1)])]
set_option maxRecDepth 20000 in
theorem kX4_agencyBook : am_all cX4_agencyBook vwCl wsX4_agencyBook RX4 flX4 nwX4 false [4] bX4_agencyBook = true := by decide +kernel
def bX4_bookSeat : List (Nat × List (Instr × Nat)) := [(0, [(.aload_n 0, 1), (.iconst 0, 1), (.putfield 7, 3), (.aload_n 0, 1), (.iload_n 3, 1), (.iload 4, 2), (.invokevirtual 146, 3), (.istore 5, 2), (.iload 5, 2), (.ifCond .lt 14, 3), (.aload_n 0, 1), (.iload_n 1, 1), (.iload_n 2, 1), (.iconst 0, 1), (.iconst 1, 1), (.invokevirtual 149, 3), (.ifCond .eq 6, 3)]),
  (30, [(.bipush (-2), 2), (.ireturn, 1)]),
  (33, [(.aload_n 0, 1), (.iload 5, 2), (.iload_n 1, 1), (.iload_n 2, 1), (.iconst (-1), 1), (.invokevirtual 100, 3), (.ifCond .ne 6, 3), (.bipush (-3), 2), (.ireturn, 1)]),
  (48, [(.aload_n 0, 1), (.iload_n 1, 1), (.iload_n 2, 1), (.aload_n 0, 1), (.getfield 23, 3), (.iload_n 3, 1), (.iaload, 1), (.iconst (-1), 1), (.iconst 2, 1), (.invokevirtual 125, 3), (.istore 6, 2), (.aload_n 0, 1), (.iload 6, 2), (.iload 5, 2), (.invokevirtual 115, 3), (.iload 6, 2), (.ireturn, 1)])]
set_option maxRecDepth 20000 in
theorem kX4_bookSeat : am_all cX4_bookSeat vwCl wsX4_bookSeat RX4 flX4 nwX4 false [4] bX4_bookSeat = true := by decide +kernel
def bX4_bookGroup : List (Nat × List (Instr × Nat)) := [(0, [(.aload_n 0, 1), (.iconst 0, 1), (.putfield 7, 3), (.iload 4, 2), (.iconst 2, 1), (.if_icmp .lt 22, 3), (.iload 4, 2), (.bipush 12, 2), (.if_icmp .gt 15, 3), (.aload_n 0, 1), (.iload_n 1, 1), (.iload_n 2, 1), (.iload_n 3, 1), (.iload 4, 2), (.invokevirtual 149, 3), (.ifCond .eq 6, 3)]),
  (30, [(.bipush (-2), 2), (.ireturn, 1)]),
  (33, [(.iconst 0, 1), (.istore 5, 2)]),
  (36, [(.iload 5, 2), (.aload_n 0, 1), (.getfield 16, 3), (.if_icmp .ge 150, 3), (.iconst 0, 1), (.istore 6, 2), (.aload_n 0, 1), (.getfield 19, 3), (.iload 5, 2), (.iaload, 1), (.istore 7, 2)]),
  (57, [(.iload 7, 2), (.aload_n 0, 1), (.getfield 19, 3), (.iload 5, 2), (.iconst 1, 1), (.iadd, 1), (.iaload, 1), (.if_icmp .ge 34, 3), (.aload_n 0, 1), (.iload 7, 2), (.iload_n 3, 1), (.invokevirtual 97, 3), (.ifCond .eq 18, 3), (.aload_n 0, 1), (.iload 7, 2), (.iload_n 1, 1), (.iload_n 2, 1), (.iconst (-1), 1), (.invokevirtual 100, 3), (.ifCond .eq 6, 3), (.iinc 6 1, 3)]),
  (96, [(.iinc 7 1, 3), (.goto (-42), 3)]),
  (102, [(.iload 6, 2), (.iload 4, 2), (.if_icmp .lt 80, 3), (.aload_n 0, 1), (.getfield 36, 3), (.istore 7, 2), (.aload_n 0, 1), (.getfield 19, 3), (.iload 5, 2), (.iaload, 1), (.istore 8, 2)]),
  (124, [(.iload 8, 2), (.aload_n 0, 1), (.getfield 19, 3), (.iload 5, 2), (.iconst 1, 1), (.iadd, 1), (.iaload, 1), (.if_icmp .ge 48, 3), (.aload_n 0, 1), (.getfield 36, 3), (.iload 7, 2), (.iload 4, 2), (.iadd, 1), (.if_icmp .ge 36, 3), (.aload_n 0, 1), (.iload 8, 2), (.iload_n 1, 1), (.iload_n 2, 1), (.iconst (-1), 1), (.invokevirtual 100, 3), (.ifCond .eq 18, 3), (.aload_n 0, 1), (.aload_n 0, 1), (.iload_n 1, 1), (.iload_n 2, 1), (.iload_n 3, 1), (.iconst (-1), 1), (.iconst 2, 1), (.invokevirtual 125, 3), (.iload 8, 2), (.invokevirtual 115, 3)]),
  (177, [(.iinc 8 1, 3), (.goto (-56), 3)]),
  (183, [(.iload 7, 2), (.ireturn, 1)]),
  (186, [(.iinc 5 1, 3), (.goto (-153), 3)]),
  (192, [(.bipush (-3), 2), (.ireturn, 1)])]
set_option maxRecDepth 20000 in
theorem kX4_bookGroup : am_all cX4_bookGroup vwCl wsX4_bookGroup RX4 flX4 nwX4 false [4] bX4_bookGroup = true := by decide +kernel
def bX4_offerChanges : List (Nat × List (Instr × Nat)) := [(0, [(.aload_n 0, 1), (.iconst 0, 1), (.putfield 7, 3), (.aload_n 0, 1), (.iload_n 1, 1), (.iload_n 2, 1), (.invokevirtual 122, 3), (.ifCond .eq 12, 3), (.iload_n 3, 1), (.ifCond .lt 8, 3), (.iload_n 3, 1), (.iconst 1, 1), (.if_icmp .le 6, 3)]),
  (23, [(.bipush (-2), 2), (.ireturn, 1)]),
  (26, [(.aload_n 0, 1), (.iload_n 1, 1), (.iload_n 2, 1), (.iload_n 3, 1), (.invokevirtual 158, 3), (.ireturn, 1)])]
set_option maxRecDepth 20000 in
theorem kX4_offerChanges : am_all cX4_offerChanges vwCl wsX4_offerChanges RX4 flX4 nwX4 false [4] bX4_offerChanges = true := by decide +kernel
def bX4_bookChanges : List (Nat × List (Instr × Nat)) := [(0, [(.aload_n 0, 1), (.iconst 0, 1), (.putfield 7, 3), (.aload_n 0, 1), (.iload_n 1, 1), (.iload_n 2, 1), (.iload_n 3, 1), (.iconst 1, 1), (.invokevirtual 149, 3), (.ifCond .eq 6, 3), (.bipush (-2), 2), (.ireturn, 1)]),
  (19, [(.aload_n 0, 1), (.iload_n 1, 1), (.iload_n 2, 1), (.iload_n 3, 1), (.invokevirtual 158, 3), (.ifCond .ge 6, 3), (.bipush (-3), 2), (.ireturn, 1)]),
  (32, [(.aload_n 0, 1), (.iload_n 1, 1), (.iload_n 2, 1), (.iload_n 3, 1), (.iconst (-1), 1), (.iconst 2, 1), (.invokevirtual 125, 3), (.istore 4, 2), (.iload_n 1, 1), (.istore 5, 2)]),
  (46, [(.iload 5, 2), (.iload_n 2, 1), (.if_icmp .ge 54, 3), (.aload_n 0, 1), (.iload 5, 2), (.iload_n 3, 1), (.invokevirtual 143, 3), (.istore 6, 2), (.aload_n 0, 1), (.iload 6, 2), (.iload 5, 2), (.iload_n 2, 1), (.invokevirtual 140, 3), (.istore 7, 2)]),
  (72, [(.iload 5, 2), (.iload 7, 2), (.if_icmp .ge 24, 3), (.aload_n 0, 1), (.getfield 57, 3), (.bipush 29, 2), (.iload 4, 2), (.imul, 1), (.iload 5, 2), (.iadd, 1), (.iload 6, 2), (.iastore, 1), (.iinc 5 1, 3), (.goto (-25), 3)]),
  (100, [(.goto (-54), 3)]),
  (103, [(.iload 4, 2), (.ireturn, 1)])]
set_option maxRecDepth 20000 in
theorem kX4_bookChanges : am_all cX4_bookChanges vwCl wsX4_bookChanges RX4 flX4 nwX4 false [4] bX4_bookChanges = true := by decide +kernel
def bX4_living : List (Nat × List (Instr × Nat)) := [(0, [(.iload_n 1, 1), (.ifCond .lt 24, 3), (.iload_n 1, 1), (.aload_n 0, 1), (.getfield 36, 3), (.if_icmp .ge 16, 3), (.aload_n 0, 1), (.getfield 39, 3), (.iload_n 1, 1), (.iaload, 1), (.ifCond .le 7, 3), (.iconst 1, 1), (.goto 4, 3)]),
  (25, [(.iconst 0, 1)]),
  (26, [(.ireturn, 1)])]
set_option maxRecDepth 20000 in
theorem kX4_living : am_all cX4_living vwCl wsX4_living RX4 flX4 nwX4 false [4] bX4_living = true := by decide +kernel
def bX4_canClear : List (Nat × List (Instr × Nat)) := [(0, [(.aload_n 0, 1), (.getfield 42, 3), (.iload_n 2, 1), (.iaload, 1), (.istore_n 3, 1)]),
  (7, [(.iload_n 3, 1), (.aload_n 0, 1), (.getfield 45, 3), (.iload_n 2, 1), (.iaload, 1), (.if_icmp .ge 47, 3), (.aload_n 0, 1), (.iload_n 1, 1), (.iload_n 3, 1), (.invokevirtual 85, 3), (.ifCond .eq 5, 3), (.iconst 0, 1), (.ireturn, 1)]),
  (28, [(.aload_n 0, 1), (.iload_n 1, 1), (.iload_n 3, 1), (.iload_n 2, 1), (.invokevirtual 89, 3), (.istore 4, 2), (.iload 4, 2), (.ifCond .lt 16, 3), (.aload_n 0, 1), (.getfield 39, 3), (.iload 4, 2), (.iaload, 1), (.iconst 2, 1), (.if_icmp .ne 5, 3), (.iconst 0, 1), (.ireturn, 1)]),
  (55, [(.iinc 3 1, 3), (.goto (-51), 3)]),
  (61, [(.iconst 1, 1), (.ireturn, 1)])]
set_option maxRecDepth 20000 in
theorem kX4_canClear : am_all cX4_canClear vwCl wsX4_canClear RX4 flX4 nwX4 false [4] bX4_canClear = true := by decide +kernel
def bX4_wish : List (Nat × List (Instr × Nat)) := [(0, [(.aload_n 0, 1), (.iconst 0, 1), (.putfield 7, 3), (.aload_n 0, 1), (.iload_n 1, 1), (.invokevirtual 161, 3), (.ifCond .eq 24, 3), (.aload_n 0, 1), (.getfield 39, 3), (.iload_n 1, 1), (.iaload, 1), (.iconst 1, 1), (.if_icmp .ne 14, 3), (.iload_n 2, 1), (.ifCond .lt 10, 3), (.iload_n 2, 1), (.sipush 255, 3), (.if_icmp .le 6, 3)]),
  (34, [(.bipush (-2), 2), (.ireturn, 1)]),
  (37, [(.iconst 0, 1), (.istore_n 3, 1)]),
  (39, [(.iload_n 3, 1), (.aload_n 0, 1), (.getfield 19, 3), (.aload_n 0, 1), (.getfield 16, 3), (.iaload, 1), (.if_icmp .ge 75, 3), (.aload_n 0, 1), (.iload_n 3, 1), (.aload_n 0, 1), (.getfield 48, 3), (.iload_n 1, 1), (.iaload, 1), (.invokevirtual 97, 3), (.ifCond .eq 55, 3), (.aload_n 0, 1), (.getfield 30, 3), (.iload_n 3, 1), (.iaload, 1), (.iload_n 2, 1), (.iand, 1), (.iload_n 2, 1), (.if_icmp .ne 43, 3), (.aload_n 0, 1), (.iload_n 3, 1), (.aload_n 0, 1), (.getfield 42, 3), (.iload_n 1, 1), (.iaload, 1), (.aload_n 0, 1), (.getfield 45, 3), (.iload_n 1, 1), (.iaload, 1), (.iload_n 1, 1), (.invokevirtual 100, 3), (.ifCond .eq 22, 3), (.aload_n 0, 1), (.iload_n 1, 1), (.iload_n 3, 1), (.invokevirtual 115, 3), (.aload_n 0, 1), (.getfield 39, 3), (.iload_n 1, 1), (.iconst 2, 1), (.iastore, 1), (.aload_n 0, 1), (.iload_n 3, 1), (.invokevirtual 164, 3), (.ireturn, 1)]),
  (118, [(.iinc 3 1, 3), (.goto (-82), 3)]),
  (124, [(.aload_n 0, 1), (.getfield 57, 3), (.bipush 29, 2), (.iload_n 1, 1), (.imul, 1), (.aload_n 0, 1), (.getfield 42, 3), (.iload_n 1, 1), (.iaload, 1), (.iadd, 1), (.iaload, 1), (.istore_n 3, 1), (.iconst 0, 1), (.istore 4, 2)]),
  (144, [(.iload 4, 2), (.aload_n 0, 1), (.getfield 19, 3), (.aload_n 0, 1), (.getfield 16, 3), (.iaload, 1), (.if_icmp .ge 95, 3), (.aload_n 0, 1), (.iload 4, 2), (.aload_n 0, 1), (.getfield 48, 3), (.iload_n 1, 1), (.iaload, 1), (.invokevirtual 97, 3), (.ifCond .eq 74, 3), (.aload_n 0, 1), (.getfield 30, 3), (.iload 4, 2), (.iaload, 1), (.iload_n 2, 1), (.iand, 1), (.iload_n 2, 1), (.if_icmp .ne 61, 3), (.aload_n 0, 1), (.iload 4, 2), (.iload_n 1, 1), (.invokevirtual 167, 3), (.ifCond .eq 51, 3), (.aload_n 0, 1), (.getfield 39, 3), (.iload_n 1, 1), (.iconst 2, 1), (.iastore, 1), (.aload_n 0, 1), (.iload_n 1, 1), (.iload 4, 2), (.invokevirtual 115, 3), (.aload_n 0, 1), (.aload_n 0, 1), (.getfield 48, 3), (.iload_n 1, 1), (.iaload, 1), (.iload_n 1, 1), (.invokevirtual 119, 3), (.ifCond .eq 10, 3), (.aload_n 0, 1), (.iload 4, 2), (.invokevirtual 164, 3), (.ireturn, 1)]),
  (231, [(.aload_n 0, 1), (.getfield 39, 3), (.iload_n 1, 1), (.iconst 1, 1), (.iastore, 1), (.aload_n 0, 1), (.iload_n 1, 1), (.iload_n 3, 1), (.invokevirtual 115, 3)]),
  (244, [(.iinc 4 1, 3), (.goto (-103), 3)]),
  (250, [(.iconst (-1), 1), (.ireturn, 1)])]
set_option maxRecDepth 20000 in
theorem kX4_wish : am_all cX4_wish vwCl wsX4_wish RX4 flX4 nwX4 false [4] bX4_wish = true := by decide +kernel
def bX4_print : List (Nat × List (Instr × Nat)) := [(0, [(.aload_n 0, 1), (.iconst 0, 1), (.putfield 7, 3), (.aload_n 0, 1), (.iload_n 1, 1), (.invokevirtual 161, 3), (.ifCond .eq 22, 3), (.aload_n 0, 1), (.getfield 39, 3), (.iload_n 1, 1), (.iaload, 1), (.iconst 3, 1), (.if_icmp .eq 12, 3), (.aload_n 0, 1), (.getfield 54, 3), (.iload_n 1, 1), (.baload, 1), (.ifCond .eq 5, 3)]),
  (32, [(.iconst 0, 1), (.ireturn, 1)]),
  (34, [(.aload_n 0, 1), (.getfield 39, 3), (.iload_n 1, 1), (.iconst 2, 1), (.iastore, 1), (.aload_n 0, 1), (.getfield 54, 3), (.iload_n 1, 1), (.iconst 1, 1), (.bastore, 1), (.iconst 1, 1), (.ireturn, 1)])]
set_option maxRecDepth 20000 in
theorem kX4_print : am_all cX4_print vwCl wsX4_print RX4 flX4 nwX4 false [4] bX4_print = true := by decide +kernel
def bX4_cancel : List (Nat × List (Instr × Nat)) := [(0, [(.aload_n 0, 1), (.iconst 0, 1), (.putfield 7, 3), (.aload_n 0, 1), (.iload_n 1, 1), (.invokevirtual 161, 3), (.ifCond .ne 5, 3), (.iconst 0, 1), (.ireturn, 1)]),
  (15, [(.aload_n 0, 1), (.getfield 39, 3), (.iload_n 1, 1), (.iconst 0, 1), (.iastore, 1), (.aload_n 0, 1), (.iload_n 1, 1), (.invokevirtual 107, 3), (.iconst 1, 1), (.ireturn, 1)])]
set_option maxRecDepth 20000 in
theorem kX4_cancel : am_all cX4_cancel vwCl wsX4_cancel RX4 flX4 nwX4 false [4] bX4_cancel = true := by decide +kernel
def bX4_shorten : List (Nat × List (Instr × Nat)) := [(0, [(.aload_n 0, 1), (.iconst 0, 1), (.putfield 7, 3), (.aload_n 0, 1), (.iload_n 1, 1), (.invokevirtual 161, 3), (.ifCond .eq 38, 3), (.aload_n 0, 1), (.getfield 39, 3), (.iload_n 1, 1), (.iaload, 1), (.iconst 3, 1), (.if_icmp .eq 28, 3), (.iload_n 2, 1), (.iload_n 3, 1), (.if_icmp .ge 23, 3), (.iload_n 2, 1), (.aload_n 0, 1), (.getfield 42, 3), (.iload_n 1, 1), (.iaload, 1), (.if_icmp .lt 13, 3), (.iload_n 3, 1), (.aload_n 0, 1), (.getfield 45, 3), (.iload_n 1, 1), (.iaload, 1), (.if_icmp .le 5, 3)]),
  (48, [(.iconst 0, 1), (.ireturn, 1)]),
  (50, [(.aload_n 0, 1), (.getfield 42, 3), (.iload_n 1, 1), (.iload_n 2, 1), (.iastore, 1), (.aload_n 0, 1), (.getfield 45, 3), (.iload_n 1, 1), (.iload_n 3, 1), (.iastore, 1), (.iconst 0, 1), (.istore 4, 2)]),
  (67, [(.iload 4, 2), (.bipush 29, 2), (.if_icmp .ge 34, 3), (.iload 4, 2), (.iload_n 2, 1), (.if_icmp .lt 9, 3), (.iload 4, 2), (.iload_n 3, 1), (.if_icmp .lt 16, 3)]),
  (86, [(.aload_n 0, 1), (.getfield 57, 3), (.bipush 29, 2), (.iload_n 1, 1), (.imul, 1), (.iload 4, 2), (.iadd, 1), (.iconst (-1), 1), (.iastore, 1)]),
  (99, [(.iinc 4 1, 3), (.goto (-35), 3)]),
  (105, [(.iconst 1, 1), (.ireturn, 1)])]
set_option maxRecDepth 20000 in
theorem kX4_shorten : am_all cX4_shorten vwCl wsX4_shorten RX4 flX4 nwX4 false [4] bX4_shorten = true := by decide +kernel
def bX4_seatOf : List (Nat × List (Instr × Nat)) := [(0, [(.aload_n 0, 1), (.iconst 0, 1), (.putfield 7, 3), (.aload_n 0, 1), (.iload_n 1, 1), (.invokevirtual 161, 3), (.ifCond .eq 17, 3), (.iload_n 2, 1), (.ifCond .lt 13, 3), (.iload_n 2, 1), (.aload_n 0, 1), (.getfield 13, 3), (.iconst 1, 1), (.isub, 1), (.if_icmp .lt 5, 3)]),
  (27, [(.iconst (-1), 1), (.ireturn, 1)]),
  (29, [(.aload_n 0, 1), (.aload_n 0, 1), (.getfield 57, 3), (.bipush 29, 2), (.iload_n 1, 1), (.imul, 1), (.iload_n 2, 1), (.iadd, 1), (.iaload, 1), (.invokevirtual 164, 3), (.ireturn, 1)])]
set_option maxRecDepth 20000 in
theorem kX4_seatOf : am_all cX4_seatOf vwCl wsX4_seatOf RX4 flX4 nwX4 false [4] bX4_seatOf = true := by decide +kernel
def bX4_block : List (Nat × List (Instr × Nat)) := [(0, [(.aload_n 0, 1), (.iconst 0, 1), (.putfield 7, 3), (.aload_n 0, 1), (.iload_n 1, 1), (.iload_n 2, 1), (.invokevirtual 146, 3), (.istore 5, 2), (.iload 5, 2), (.ifCond .lt 13, 3), (.aload_n 0, 1), (.iload_n 3, 1), (.iload 4, 2), (.invokevirtual 122, 3), (.ifCond .ne 6, 3)]),
  (28, [(.bipush (-2), 2), (.ireturn, 1)]),
  (31, [(.iconst 0, 1), (.istore 6, 2), (.iload_n 3, 1), (.istore 7, 2)]),
  (37, [(.iload 7, 2), (.iload 4, 2), (.if_icmp .ge 46, 3), (.aload_n 0, 1), (.iload 5, 2), (.iload 7, 2), (.iconst (-1), 1), (.invokevirtual 89, 3), (.istore 8, 2), (.iload 8, 2), (.ifCond .lt 16, 3), (.aload_n 0, 1), (.getfield 39, 3), (.iload 8, 2), (.iaload, 1), (.iconst 2, 1), (.if_icmp .ne 5, 3), (.iconst 0, 1), (.ireturn, 1)]),
  (73, [(.iload 8, 2), (.ifCond .lt 6, 3), (.iconst 1, 1), (.istore 6, 2)]),
  (81, [(.iinc 7 1, 3), (.goto (-47), 3)]),
  (87, [(.aload_n 0, 1), (.getfield 66, 3), (.aload_n 0, 1), (.getfield 63, 3), (.iload 5, 2), (.iastore, 1), (.aload_n 0, 1), (.getfield 69, 3), (.aload_n 0, 1), (.getfield 63, 3), (.iload_n 3, 1), (.iastore, 1), (.aload_n 0, 1), (.getfield 72, 3), (.aload_n 0, 1), (.getfield 63, 3), (.iload 4, 2), (.iastore, 1), (.aload_n 0, 1), (.dup, 1), (.getfield 63, 3), (.iconst 1, 1), (.iadd, 1), (.putfield 63, 3), (.iload 6, 2), (.ifCond .eq 29, 3), (.aload_n 0, 1), (.aload_n 0, 1), (.getfield 23, 3), (.iload_n 1, 1), (.iaload, 1), (.iconst (-1), 1), (.invokevirtual 119, 3), (.ifCond .ne 15, 3), (.aload_n 0, 1), (.dup, 1), (.getfield 63, 3), (.iconst 1, 1), (.isub, 1), (.putfield 63, 3), (.iconst 0, 1), (.ireturn, 1)]),
  (160, [(.iconst 1, 1), (.ireturn, 1)])]
set_option maxRecDepth 20000 in
theorem kX4_block : am_all cX4_block vwCl wsX4_block RX4 flX4 nwX4 false [4] bX4_block = true := by decide +kernel
def bX4_dropBlock : List (Nat × List (Instr × Nat)) := [(0, [(.aload_n 0, 1), (.dup, 1), (.getfield 63, 3), (.iconst 1, 1), (.isub, 1), (.putfield 63, 3), (.iload_n 1, 1), (.istore_n 2, 1)]),
  (12, [(.iload_n 2, 1), (.aload_n 0, 1), (.getfield 63, 3), (.if_icmp .ge 51, 3), (.aload_n 0, 1), (.getfield 66, 3), (.iload_n 2, 1), (.aload_n 0, 1), (.getfield 66, 3), (.iload_n 2, 1), (.iconst 1, 1), (.iadd, 1), (.iaload, 1), (.iastore, 1), (.aload_n 0, 1), (.getfield 69, 3), (.iload_n 2, 1), (.aload_n 0, 1), (.getfield 69, 3), (.iload_n 2, 1), (.iconst 1, 1), (.iadd, 1), (.iaload, 1), (.iastore, 1), (.aload_n 0, 1), (.getfield 72, 3), (.iload_n 2, 1), (.aload_n 0, 1), (.getfield 72, 3), (.iload_n 2, 1), (.iconst 1, 1), (.iadd, 1), (.iaload, 1), (.iastore, 1), (.iinc 2 1, 3), (.goto (-53), 3)]),
  (68, [(.return_, 1)])]
set_option maxRecDepth 20000 in
theorem kX4_dropBlock : am_all cX4_dropBlock vwCl wsX4_dropBlock RX4 flX4 nwX4 false [4] bX4_dropBlock = true := by decide +kernel
def bX4_unblock : List (Nat × List (Instr × Nat)) := [(0, [(.aload_n 0, 1), (.iconst 0, 1), (.putfield 7, 3), (.aload_n 0, 1), (.iload_n 1, 1), (.iload_n 2, 1), (.invokevirtual 146, 3), (.istore 5, 2), (.iconst 0, 1), (.istore 6, 2)]),
  (16, [(.iload 6, 2), (.aload_n 0, 1), (.getfield 63, 3), (.if_icmp .ge 57, 3), (.iload 5, 2), (.ifCond .lt 46, 3), (.aload_n 0, 1), (.getfield 66, 3), (.iload 6, 2), (.iaload, 1), (.iload 5, 2), (.if_icmp .ne 34, 3), (.aload_n 0, 1), (.getfield 69, 3), (.iload 6, 2), (.iaload, 1), (.iload_n 3, 1), (.if_icmp .ne 23, 3), (.aload_n 0, 1), (.getfield 72, 3), (.iload 6, 2), (.iaload, 1), (.iload 4, 2), (.if_icmp .ne 11, 3), (.aload_n 0, 1), (.iload 6, 2), (.invokevirtual 170, 3), (.iconst 1, 1), (.ireturn, 1)]),
  (73, [(.iinc 6 1, 3), (.goto (-60), 3)]),
  (79, [(.iconst 0, 1), (.ireturn, 1)])]
set_option maxRecDepth 20000 in
theorem kX4_unblock : am_all cX4_unblock vwCl wsX4_unblock RX4 flX4 nwX4 false [4] bX4_unblock = true := by decide +kernel
def bX4_sitsIn : List (Nat × List (Instr × Nat)) := [(0, [(.iconst 0, 1), (.istore_n 3, 1)]),
  (2, [(.iload_n 3, 1), (.bipush 29, 2), (.if_icmp .ge 48, 3), (.aload_n 0, 1), (.getfield 57, 3), (.bipush 29, 2), (.iload_n 1, 1), (.imul, 1), (.iload_n 3, 1), (.iadd, 1), (.iaload, 1), (.istore 4, 2), (.iload 4, 2), (.aload_n 0, 1), (.getfield 19, 3), (.iload_n 2, 1), (.iaload, 1), (.if_icmp .lt 18, 3), (.iload 4, 2), (.aload_n 0, 1), (.getfield 19, 3), (.iload_n 2, 1), (.iconst 1, 1), (.iadd, 1), (.iaload, 1), (.if_icmp .ge 5, 3), (.iconst 1, 1), (.ireturn, 1)]),
  (47, [(.iinc 3 1, 3), (.goto (-48), 3)]),
  (53, [(.iconst 0, 1), (.ireturn, 1)])]
set_option maxRecDepth 20000 in
theorem kX4_sitsIn : am_all cX4_sitsIn vwCl wsX4_sitsIn RX4 flX4 nwX4 false [4] bX4_sitsIn = true := by decide +kernel
def bX4_removeCoach : List (Nat × List (Instr × Nat)) := [(0, [(.aload_n 0, 1), (.iconst 0, 1), (.putfield 7, 3), (.iload_n 1, 1), (.ifCond .lt 20, 3), (.iload_n 1, 1), (.aload_n 0, 1), (.getfield 16, 3), (.if_icmp .ge 12, 3), (.aload_n 0, 1), (.getfield 26, 3), (.iload_n 1, 1), (.baload, 1), (.ifCond .eq 6, 3)]),
  (26, [(.bipush (-2), 2), (.ireturn, 1)]),
  (29, [(.aload_n 0, 1), (.getfield 26, 3), (.iload_n 1, 1), (.iconst 1, 1), (.bastore, 1), (.aload_n 0, 1), (.getfield 63, 3), (.iconst 1, 1), (.isub, 1), (.istore_n 2, 1)]),
  (43, [(.iload_n 2, 1), (.ifCond .lt 46, 3), (.aload_n 0, 1), (.getfield 66, 3), (.iload_n 2, 1), (.iaload, 1), (.aload_n 0, 1), (.getfield 19, 3), (.iload_n 1, 1), (.iaload, 1), (.if_icmp .lt 25, 3), (.aload_n 0, 1), (.getfield 66, 3), (.iload_n 2, 1), (.iaload, 1), (.aload_n 0, 1), (.getfield 19, 3), (.iload_n 1, 1), (.iconst 1, 1), (.iadd, 1), (.iaload, 1), (.if_icmp .ge 8, 3), (.aload_n 0, 1), (.iload_n 2, 1), (.invokevirtual 170, 3)]),
  (84, [(.iinc 2 (-1), 3), (.goto (-44), 3)]),
  (90, [(.iconst 0, 1), (.istore_n 2, 1)]),
  (92, [(.iload_n 2, 1), (.aload_n 0, 1), (.getfield 36, 3), (.if_icmp .ge 65, 3), (.aload_n 0, 1), (.getfield 78, 3), (.iload_n 2, 1), (.aload_n 0, 1), (.iload_n 2, 1), (.invokevirtual 161, 3), (.ifCond .eq 16, 3), (.aload_n 0, 1), (.iload_n 2, 1), (.iload_n 1, 1), (.invokevirtual 173, 3), (.ifCond .eq 7, 3), (.iconst 1, 1), (.goto 4, 3)]),
  (126, [(.iconst 0, 1)]),
  (127, [(.bastore, 1), (.aload_n 0, 1), (.getfield 78, 3), (.iload_n 2, 1), (.baload, 1), (.ifCond .eq 22, 3), (.aload_n 0, 1), (.getfield 39, 3), (.iload_n 2, 1), (.iconst 3, 1), (.iastore, 1), (.aload_n 0, 1), (.getfield 54, 3), (.iload_n 2, 1), (.iconst 0, 1), (.bastore, 1), (.aload_n 0, 1), (.iload_n 2, 1), (.invokevirtual 107, 3)]),
  (156, [(.iinc 2 1, 3), (.goto (-67), 3)]),
  (162, [(.iconst 0, 1), (.istore_n 2, 1), (.iconst 0, 1), (.istore_n 3, 1)]),
  (166, [(.iload_n 3, 1), (.aload_n 0, 1), (.getfield 36, 3), (.if_icmp .ge 48, 3), (.aload_n 0, 1), (.getfield 78, 3), (.iload_n 3, 1), (.baload, 1), (.ifCond .eq 33, 3), (.aload_n 0, 1), (.getfield 39, 3), (.iload_n 3, 1), (.iconst 1, 1), (.iastore, 1), (.aload_n 0, 1), (.iload_n 3, 1), (.invokevirtual 129, 3), (.ifCond .ne 18, 3), (.aload_n 0, 1), (.getfield 39, 3), (.iload_n 3, 1), (.iconst 3, 1), (.iastore, 1), (.aload_n 0, 1), (.iload_n 3, 1), (.invokevirtual 107, 3), (.iinc 2 1, 3)]),
  (213, [(.iinc 3 1, 3), (.goto (-50), 3)]),
  (219, [(.iload_n 2, 1), (.ireturn, 1)])]
set_option maxRecDepth 20000 in
theorem kX4_removeCoach : am_all cX4_removeCoach vwCl wsX4_removeCoach RX4 flX4 nwX4 false [4] bX4_removeCoach = true := by decide +kernel
def bX4_standing : List (Nat × List (Instr × Nat)) := [(0, [(.aload_n 0, 1), (.iconst 0, 1), (.putfield 7, 3), (.iconst 0, 1), (.istore_n 2, 1), (.iconst 0, 1), (.istore_n 3, 1)]),
  (9, [(.iload_n 3, 1), (.aload_n 0, 1), (.getfield 36, 3), (.if_icmp .ge 29, 3), (.aload_n 0, 1), (.getfield 39, 3), (.iload_n 3, 1), (.iaload, 1), (.iconst 3, 1), (.if_icmp .ne 13, 3), (.iload_n 2, 1), (.iload_n 1, 1), (.if_icmp .ne 5, 3), (.iload_n 3, 1), (.ireturn, 1)]),
  (34, [(.iinc 2 1, 3)]),
  (37, [(.iinc 3 1, 3), (.goto (-31), 3)]),
  (43, [(.iconst (-1), 1), (.ireturn, 1)])]
set_option maxRecDepth 20000 in
theorem kX4_standing : am_all cX4_standing vwCl wsX4_standing RX4 flX4 nwX4 false [4] bX4_standing = true := by decide +kernel
def bX4_load : List (Nat × List (Instr × Nat)) := [(0, [(.aload_n 0, 1), (.iconst 0, 1), (.putfield 7, 3), (.iload_n 1, 1), (.ifCond .lt 22, 3), (.iload_n 1, 1), (.aload_n 0, 1), (.getfield 13, 3), (.iconst 1, 1), (.isub, 1), (.if_icmp .ge 12, 3), (.iload_n 2, 1), (.ifCond .lt 8, 3), (.iload_n 2, 1), (.iconst 1, 1), (.if_icmp .le 6, 3)]),
  (28, [(.bipush (-2), 2), (.ireturn, 1)]),
  (31, [(.aload_n 0, 1), (.iload_n 1, 1), (.iload_n 2, 1), (.invokevirtual 133, 3), (.ireturn, 1)])]
set_option maxRecDepth 20000 in
theorem kX4_load : am_all cX4_load vwCl wsX4_load RX4 flX4 nwX4 false [4] bX4_load = true := by decide +kernel
def bX4_free : List (Nat × List (Instr × Nat)) := [(0, [(.aload_n 0, 1), (.iconst 0, 1), (.putfield 7, 3), (.iload_n 1, 1), (.ifCond .lt 22, 3), (.iload_n 1, 1), (.aload_n 0, 1), (.getfield 13, 3), (.iconst 1, 1), (.isub, 1), (.if_icmp .ge 12, 3), (.iload_n 2, 1), (.ifCond .lt 8, 3), (.iload_n 2, 1), (.iconst 1, 1), (.if_icmp .le 6, 3)]),
  (28, [(.bipush (-2), 2), (.ireturn, 1)]),
  (31, [(.iconst 0, 1), (.istore_n 3, 1), (.iconst 0, 1), (.istore 4, 2)]),
  (36, [(.iload 4, 2), (.aload_n 0, 1), (.getfield 19, 3), (.aload_n 0, 1), (.getfield 16, 3), (.iaload, 1), (.if_icmp .ge 33, 3), (.aload_n 0, 1), (.iload 4, 2), (.iload_n 2, 1), (.invokevirtual 97, 3), (.ifCond .eq 17, 3), (.aload_n 0, 1), (.iload 4, 2), (.iload_n 1, 1), (.iconst (-1), 1), (.invokevirtual 93, 3), (.ifCond .eq 6, 3), (.iinc 3 1, 3)]),
  (74, [(.iinc 4 1, 3), (.goto (-41), 3)]),
  (80, [(.iload_n 3, 1), (.ireturn, 1)])]
set_option maxRecDepth 20000 in
theorem kX4_free : am_all cX4_free vwCl wsX4_free RX4 flX4 nwX4 false [4] bX4_free = true := by decide +kernel
def bX4_moved : List (Nat × List (Instr × Nat)) := [(0, [(.aload_n 0, 1), (.iconst 0, 1), (.putfield 7, 3), (.aload_n 0, 1), (.getfield 75, 3), (.ireturn, 1)])]
set_option maxRecDepth 20000 in
theorem kX4_moved : am_all cX4_moved vwCl wsX4_moved RX4 flX4 nwX4 false [4] bX4_moved = true := by decide +kernel
def bX4_manifest : List (Nat × List (Instr × Nat)) := [(0, [(.aload_n 0, 1), (.iconst 0, 1), (.putfield 7, 3), (.iconst 0, 1), (.istore_n 3, 1), (.iconst 0, 1), (.istore 4, 2)]),
  (10, [(.iload 4, 2), (.iconst 2, 1), (.if_icmp .ge 74, 3), (.iconst 0, 1), (.istore 5, 2)]),
  (19, [(.iload 5, 2), (.aload_n 0, 1), (.getfield 36, 3), (.if_icmp .ge 56, 3), (.aload_n 0, 1), (.getfield 39, 3), (.iload 5, 2), (.iaload, 1), (.ifCond .le 40, 3), (.iload 4, 2), (.ifCond .ne 13, 3), (.aload_n 0, 1), (.getfield 45, 3), (.iload 5, 2), (.iaload, 1), (.goto 10, 3)]),
  (53, [(.aload_n 0, 1), (.getfield 42, 3), (.iload 5, 2), (.iaload, 1)]),
  (60, [(.iload_n 1, 1), (.if_icmp .ne 14, 3), (.iload_n 3, 1), (.iload_n 2, 1), (.if_icmp .ne 6, 3), (.iload 5, 2), (.ireturn, 1)]),
  (72, [(.iinc 3 1, 3)]),
  (75, [(.iinc 5 1, 3), (.goto (-59), 3)]),
  (81, [(.iinc 4 1, 3), (.goto (-74), 3)]),
  (87, [(.iconst (-1), 1), (.ireturn, 1)])]
set_option maxRecDepth 20000 in
theorem kX4_manifest : am_all cX4_manifest vwCl wsX4_manifest RX4 flX4 nwX4 false [4] bX4_manifest = true := by decide +kernel
def bX4_ride : List (Nat × List (Instr × Nat)) := [(0, [(.aload_n 0, 1), (.iload_n 1, 1), (.ifCond .lt 20, 3), (.iload_n 1, 1), (.aload_n 0, 1), (.getfield 36, 3), (.if_icmp .ge 12, 3), (.iload_n 2, 1), (.ifCond .lt 8, 3), (.iload_n 2, 1), (.iconst 5, 1), (.if_icmp .le 7, 3)]),
  (22, [(.iconst 1, 1), (.goto 4, 3)]),
  (26, [(.iconst 0, 1)]),
  (27, [(.putfield 7, 3), (.aload_n 0, 1), (.getfield 7, 3), (.ifCond .eq 5, 3), (.iconst 0, 1), (.ireturn, 1)]),
  (39, [(.iload_n 2, 1), (.tableswitch 71 0 4 #[36, 43, 50, 57, 64], 36)]),
  (76, [(.aload_n 0, 1), (.getfield 39, 3), (.iload_n 1, 1), (.iaload, 1), (.ireturn, 1)]),
  (83, [(.aload_n 0, 1), (.getfield 42, 3), (.iload_n 1, 1), (.iaload, 1), (.ireturn, 1)]),
  (90, [(.aload_n 0, 1), (.getfield 45, 3), (.iload_n 1, 1), (.iaload, 1), (.ireturn, 1)]),
  (97, [(.aload_n 0, 1), (.getfield 48, 3), (.iload_n 1, 1), (.iaload, 1), (.ireturn, 1)]),
  (104, [(.aload_n 0, 1), (.getfield 51, 3), (.iload_n 1, 1), (.iaload, 1), (.ireturn, 1)]),
  (111, [(.iconst 0, 1), (.istore_n 3, 1), (.aload_n 0, 1), (.getfield 42, 3), (.iload_n 1, 1), (.iaload, 1), (.istore 4, 2)]),
  (121, [(.iload 4, 2), (.iconst 1, 1), (.iadd, 1), (.aload_n 0, 1), (.getfield 45, 3), (.iload_n 1, 1), (.iaload, 1), (.if_icmp .ge 41, 3), (.aload_n 0, 1), (.getfield 57, 3), (.bipush 29, 2), (.iload_n 1, 1), (.imul, 1), (.iload 4, 2), (.iadd, 1), (.iaload, 1), (.aload_n 0, 1), (.getfield 57, 3), (.bipush 29, 2), (.iload_n 1, 1), (.imul, 1), (.iload 4, 2), (.iadd, 1), (.iconst 1, 1), (.iadd, 1), (.iaload, 1), (.if_icmp .eq 6, 3), (.iinc 3 1, 3)]),
  (166, [(.iinc 4 1, 3), (.goto (-48), 3)]),
  (172, [(.iload_n 3, 1), (.ireturn, 1)])]
set_option maxRecDepth 20000 in
theorem kX4_ride : am_all cX4_ride vwCl wsX4_ride RX4 flX4 nwX4 false [4] bX4_ride = true := by decide +kernel
