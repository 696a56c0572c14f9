/-! blocks of SeatDesk, by program out of javap's listing -/
def flX3 : Nat → Nat × Nat := fun x => match x with
  | 9 => (3, 0)
  | 18 => (3, 1)
  | 25 => (3, 2)
  | 31 => (3, 3)
  | 37 => (3, 5)
  | 40 => (3, 7)
  | 43 => (3, 8)
  | 47 => (3, 9)
  | 67 => (2, 4)
  | 101 => (3, 4)
  | 121 => (1, 6)
  | 131 => (1, 0)
  | 141 => (1, 2)
  | 144 => (1, 3)
  | 158 => (2, 3)
  | 161 => (1, 7)
  | 168 => (1, 1)
  | 178 => (2, 5)
  | 185 => (2, 6)
  | 191 => (2, 2)
  | 223 => (3, 6)
  | 236 => (1, 4)
  | 238 => (1, 5)
  | 287 => (2, 1)
  | _ => (0, 0)
def nwX3 : Nat → Nat := fun x => match x with
  | 13 => 2
  | 22 => 0
  | 29 => 1
  | _ => 0
theorem flX3_9 : flX3 9 = (3, 0) := rfl
theorem flX3_18 : flX3 18 = (3, 1) := rfl
theorem flX3_25 : flX3 25 = (3, 2) := rfl
theorem flX3_31 : flX3 31 = (3, 3) := rfl
theorem flX3_37 : flX3 37 = (3, 5) := rfl
theorem flX3_40 : flX3 40 = (3, 7) := rfl
theorem flX3_43 : flX3 43 = (3, 8) := rfl
theorem flX3_47 : flX3 47 = (3, 9) := rfl
theorem flX3_67 : flX3 67 = (2, 4) := rfl
theorem flX3_101 : flX3 101 = (3, 4) := rfl
theorem flX3_121 : flX3 121 = (1, 6) := rfl
theorem flX3_131 : flX3 131 = (1, 0) := rfl
theorem flX3_141 : flX3 141 = (1, 2) := rfl
theorem flX3_144 : flX3 144 = (1, 3) := rfl
theorem flX3_158 : flX3 158 = (2, 3) := rfl
theorem flX3_161 : flX3 161 = (1, 7) := rfl
theorem flX3_168 : flX3 168 = (1, 1) := rfl
theorem flX3_178 : flX3 178 = (2, 5) := rfl
theorem flX3_185 : flX3 185 = (2, 6) := rfl
theorem flX3_191 : flX3 191 = (2, 2) := rfl
theorem flX3_223 : flX3 223 = (3, 6) := rfl
theorem flX3_236 : flX3 236 = (1, 4) := rfl
theorem flX3_238 : flX3 238 = (1, 5) := rfl
theorem flX3_287 : flX3 287 = (2, 1) := rfl
theorem nwX3_13 : nwX3 13 = 2 := rfl
theorem nwX3_22 : nwX3 22 = 0 := rfl
theorem nwX3_29 : nwX3 29 = 1 := rfl
def bX3_init : List (Nat × List (Instr × Nat)) := [(0, [(.aload_n 0, 1), (.invokespecial 1, 3), (.iload_n 1, 1), (.iconst 2, 1), (.if_icmp .lt 13, 3), (.iload_n 1, 1), (.bipush 30, 2), (.if_icmp .gt 7, 3), (.iconst 1, 1), (.goto 4, 3)]),
  (19, [(.iconst 0, 1)]),
  (20, [(.istore_n 2, 1), (.aload_n 0, 1), (.iload_n 2, 1), (.ifCond .eq 7, 3), (.iload_n 1, 1), (.goto 5, 3)]),
  (30, [(.bipush 10, 2)]),
  (32, [(.iconst 1, 1), (.isub, 1), (.putfield 9, 3), (.aload_n 0, 1), (.new 13, 3), (.dup, 1), (.aload_n 0, 1), (.getfield 9, 3), (.invokespecial 15, 3), (.putfield 18, 3), (.aload_n 0, 1), (.new 22, 3), (.dup, 1), (.invokespecial 24, 3), (.putfield 25, 3), (.aload_n 0, 1), (.sipush 150, 3), (.anewarray 29, 3), (.putfield 31, 3), (.aload_n 0, 1), (.iconst 4, 1), (.aload_n 0, 1), (.getfield 9, 3), (.multianewarray 35 2, 4), (.putfield 37, 3), (.aload_n 0, 1), (.sipush 150, 3), (.anewarray 29, 3), (.putfield 40, 3), (.aload_n 0, 1), (.sipush 150, 3), (.newarray .int, 2), (.putfield 43, 3), (.aload_n 0, 1), (.bipush 80, 2), (.newarray .int, 2), (.putfield 47, 3), (.return_, 1)])]
set_option maxRecDepth 20000 in
theorem kX3_init : am_all cX3_init vwCl wsX3_init RX3 flX3 nwX3 true [0, 2, 3] bX3_init = true := by decide +kernel
def bX3_coach : List (Nat × List (Instr × Nat)) := [(0, [(.iload_n 1, 1), (.invokestatic 50, 3), (.ifCond .eq 25, 3), (.iload_n 2, 1), (.iconst 1, 1), (.if_icmp .lt 20, 3), (.iload_n 2, 1), (.bipush 20, 2), (.if_icmp .gt 14, 3), (.aload_n 0, 1), (.getfield 18, 3), (.iload_n 2, 1), (.invokevirtual 54, 3), (.ifCond .ne 6, 3)]),
  (29, [(.bipush (-2), 2), (.ireturn, 1)]),
  (32, [(.aload_n 0, 1), (.getfield 18, 3), (.iload_n 1, 1), (.iload_n 2, 1), (.invokevirtual 57, 3), (.ireturn, 1)])]
set_option maxRecDepth 20000 in
theorem kX3_coach : am_all cX3_coach vwCl wsX3_coach RX3 flX3 nwX3 false [3] bX3_coach = true := by decide +kernel
def bX3_flags : List (Nat × List (Instr × Nat)) := [(0, [(.aload_n 0, 1), (.getfield 18, 3), (.iload_n 1, 1), (.iload_n 2, 1), (.invokevirtual 61, 3), (.istore 4, 2), (.iload 4, 2), (.iconst (-1), 1), (.if_icmp .eq 10, 3), (.iload_n 3, 1), (.invokestatic 64, 3), (.ifCond .ne 5, 3)]),
  (24, [(.iconst 0, 1), (.ireturn, 1)]),
  (26, [(.aload_n 0, 1), (.getfield 18, 3), (.getfield 67, 3), (.iload 4, 2), (.iload_n 3, 1), (.iastore, 1), (.iconst 1, 1), (.ireturn, 1)])]
set_option maxRecDepth 20000 in
theorem kX3_flags : am_all cX3_flags vwCl wsX3_flags RX3 flX3 nwX3 false [2, 3] bX3_flags = true := by decide +kernel
def bX3_quota : List (Nat × List (Instr × Nat)) := [(0, [(.aload_n 0, 1), (.iload_n 1, 1), (.invokevirtual 70, 3), (.ifCond .eq 21, 3), (.iload_n 2, 1), (.invokestatic 73, 3), (.ifCond .eq 14, 3), (.iload_n 3, 1), (.ifCond .lt 10, 3), (.iload_n 3, 1), (.sipush 150, 3), (.if_icmp .le 5, 3)]),
  (26, [(.iconst 0, 1), (.ireturn, 1)]),
  (28, [(.aload_n 0, 1), (.getfield 37, 3), (.iload_n 2, 1), (.aaload, 1), (.iload_n 1, 1), (.iload_n 3, 1), (.iastore, 1), (.iconst 1, 1), (.ireturn, 1)])]
set_option maxRecDepth 20000 in
theorem kX3_quota : am_all cX3_quota vwCl wsX3_quota RX3 flX3 nwX3 false [3] bX3_quota = true := by decide +kernel
def bX3_book : List (Nat × List (Instr × Nat)) := [(0, [(.aload_n 0, 1), (.iload_n 1, 1), (.iload_n 2, 1), (.iconst 1, 1), (.invokevirtual 76, 3), (.ifCond .eq 10, 3), (.iload_n 3, 1), (.invokestatic 50, 3), (.ifCond .ne 6, 3)]),
  (17, [(.bipush (-2), 2), (.ireturn, 1)]),
  (20, [(.aload_n 0, 1), (.iload_n 1, 1), (.iload_n 2, 1), (.iload_n 3, 1), (.iconst (-1), 1), (.invokevirtual 80, 3), (.ireturn, 1)])]
set_option maxRecDepth 20000 in
theorem kX3_book : am_all cX3_book vwCl wsX3_book RX3 flX3 nwX3 false [] bX3_book = true := by decide +kernel
def bX3_agencyBook : List (Nat × List (Instr × Nat)) := [(0, [(.iload_n 1, 1), (.invokestatic 73, 3), (.ifCond .eq 21, 3), (.aload_n 0, 1), (.iload_n 2, 1), (.iload_n 3, 1), (.iconst 1, 1), (.invokevirtual 76, 3), (.ifCond .eq 11, 3), (.iload 4, 2), (.invokestatic 50, 3), (.ifCond .ne 6, 3)]),
  (25, [(.bipush (-2), 2), (.ireturn, 1)]),
  (28, [(.aload_n 0, 1), (.iload_n 1, 1), (.iload_n 2, 1), (.iload_n 3, 1), (.invokevirtual 84, 3), (.ifCond .eq 6, 3), (.bipush (-5), 2), (.ireturn, 1)]),
  (41, [(.aload_n 0, 1), (.iload_n 2, 1), (.iload_n 3, 1), (.iload 4, 2), (.iload_n 1, 1), (.invokevirtual 80, 3), (.ireturn, 1)])]
set_option maxRecDepth 20000 in
theorem kX3_agencyBook : am_all cX3_agencyBook vwCl wsX3_agencyBook RX3 flX3 nwX3 false [] bX3_agencyBook = true := by decide +kernel
def bX3_bookSeat : List (Nat × List (Instr × Nat)) := [(0, [(.aload_n 0, 1), (.getfield 18, 3), (.iload_n 3, 1), (.iload 4, 2), (.invokevirtual 61, 3), (.istore 5, 2), (.iload 5, 2), (.iconst (-1), 1), (.if_icmp .eq 13, 3), (.aload_n 0, 1), (.iload_n 1, 1), (.iload_n 2, 1), (.iconst 1, 1), (.invokevirtual 76, 3), (.ifCond .ne 6, 3)]),
  (28, [(.bipush (-2), 2), (.ireturn, 1)]),
  (31, [(.aload_n 0, 1), (.getfield 18, 3), (.iload 5, 2), (.iload_n 1, 1), (.iload_n 2, 1), (.invokestatic 87, 3), (.invokevirtual 90, 3), (.ifCond .ne 6, 3), (.bipush (-3), 2), (.ireturn, 1)]),
  (51, [(.aload_n 0, 1), (.iload_n 1, 1), (.iload_n 2, 1), (.iload 5, 2), (.invokevirtual 94, 3), (.ireturn, 1)])]
set_option maxRecDepth 20000 in
theorem kX3_bookSeat : am_all cX3_bookSeat vwCl wsX3_bookSeat RX3 flX3 nwX3 false [3] bX3_bookSeat = true := by decide +kernel
def bX3_bookGroup : List (Nat × List (Instr × Nat)) := [(0, [(.iload 4, 2), (.iconst 2, 1), (.if_icmp .lt 28, 3), (.iload 4, 2), (.bipush 12, 2), (.if_icmp .gt 21, 3), (.aload_n 0, 1), (.iload_n 1, 1), (.iload_n 2, 1), (.iload 4, 2), (.invokevirtual 76, 3), (.ifCond .eq 10, 3), (.iload_n 3, 1), (.invokestatic 50, 3), (.ifCond .ne 6, 3)]),
  (31, [(.bipush (-2), 2), (.ireturn, 1)]),
  (34, [(.aload_n 0, 1), (.getfield 18, 3), (.iload_n 3, 1), (.iload_n 1, 1), (.iload_n 2, 1), (.invokestatic 87, 3), (.iload 4, 2), (.invokevirtual 98, 3), (.istore 5, 2), (.iload 5, 2), (.iconst (-1), 1), (.if_icmp .ne 6, 3), (.bipush (-3), 2), (.ireturn, 1)]),
  (60, [(.aload_n 0, 1), (.getfield 101, 3), (.istore 6, 2), (.iconst 0, 1), (.istore 7, 2), (.aload_n 0, 1), (.getfield 18, 3), (.iload 5, 2), (.invokevirtual 104, 3), (.istore 8, 2)]),
  (80, [(.iload 8, 2), (.aload_n 0, 1), (.getfield 18, 3), (.iload 5, 2), (.invokevirtual 108, 3), (.if_icmp .ge 45, 3), (.iload 7, 2), (.iload 4, 2), (.if_icmp .ge 38, 3), (.aload_n 0, 1), (.getfield 18, 3), (.iload 8, 2), (.iload_n 1, 1), (.iload_n 2, 1), (.invokestatic 87, 3), (.invokevirtual 90, 3), (.ifCond .eq 15, 3), (.aload_n 0, 1), (.iload_n 1, 1), (.iload_n 2, 1), (.iload 8, 2), (.invokevirtual 94, 3), (.pop, 1), (.iinc 7 1, 3)]),
  (130, [(.iinc 8 1, 3), (.goto (-53), 3)]),
  (136, [(.iload 6, 2), (.ireturn, 1)])]
set_option maxRecDepth 20000 in
theorem kX3_bookGroup : am_all cX3_bookGroup vwCl wsX3_bookGroup RX3 flX3 nwX3 false [3] bX3_bookGroup = true := by decide +kernel
def bX3_offerChanges : List (Nat × List (Instr × Nat)) := [(0, [(.aload_n 0, 1), (.iload_n 1, 1), (.iload_n 2, 1), (.invokevirtual 111, 3), (.ifCond .eq 10, 3), (.iload_n 3, 1), (.invokestatic 50, 3), (.ifCond .ne 6, 3)]),
  (16, [(.bipush (-2), 2), (.ireturn, 1)]),
  (19, [(.aload_n 0, 1), (.iload_n 1, 1), (.iload_n 2, 1), (.iload_n 3, 1), (.invokevirtual 114, 3), (.ireturn, 1)])]
set_option maxRecDepth 20000 in
theorem kX3_offerChanges : am_all cX3_offerChanges vwCl wsX3_offerChanges RX3 flX3 nwX3 false [] bX3_offerChanges = true := by decide +kernel
def bX3_bookChanges : List (Nat × List (Instr × Nat)) := [(0, [(.aload_n 0, 1), (.iload_n 1, 1), (.iload_n 2, 1), (.iconst 1, 1), (.invokevirtual 76, 3), (.ifCond .eq 10, 3), (.iload_n 3, 1), (.invokestatic 50, 3), (.ifCond .ne 6, 3)]),
  (17, [(.bipush (-2), 2), (.ireturn, 1)]),
  (20, [(.aload_n 0, 1), (.iload_n 1, 1), (.iload_n 2, 1), (.iload_n 3, 1), (.invokevirtual 114, 3), (.iconst (-1), 1), (.if_icmp .ne 6, 3), (.bipush (-3), 2), (.ireturn, 1)]),
  (34, [(.aload_n 0, 1), (.iload_n 1, 1), (.iload_n 2, 1), (.iload_n 3, 1), (.iconst (-1), 1), (.invokevirtual 117, 3), (.astore 4, 2), (.aload 4, 2), (.iconst 2, 1), (.putfield 121, 3), (.iconst (-1), 1), (.istore 5, 2), (.iload_n 1, 1), (.istore 6, 2)]),
  (56, [(.iload 6, 2), (.iload_n 2, 1), (.if_icmp .ge 62, 3), (.iload 5, 2), (.iconst (-1), 1), (.if_icmp .eq 24, 3), (.aload_n 0, 1), (.getfield 18, 3), (.iload 5, 2), (.iload 6, 2), (.iload 6, 2), (.iconst 1, 1), (.iadd, 1), (.invokestatic 87, 3), (.invokevirtual 90, 3), (.ifCond .ne 15, 3)]),
  (89, [(.aload_n 0, 1), (.getfield 18, 3), (.iload 6, 2), (.iload_n 3, 1), (.invokevirtual 124, 3), (.istore 5, 2)]),
  (101, [(.aload_n 0, 1), (.aload 4, 2), (.iload 5, 2), (.iload 6, 2), (.iload 6, 2), (.iconst 1, 1), (.iadd, 1), (.invokevirtual 127, 3), (.iinc 6 1, 3), (.goto (-62), 3)]),
  (121, [(.aload 4, 2), (.getfield 131, 3), (.ireturn, 1)])]
set_option maxRecDepth 20000 in
theorem kX3_bookChanges : am_all cX3_bookChanges vwCl wsX3_bookChanges RX3 flX3 nwX3 false [1, 3] bX3_bookChanges = true := by decide +kernel
def bX3_wish : List (Nat × List (Instr × Nat)) := [(0, [(.aload_n 0, 1), (.iload_n 1, 1), (.invokevirtual 134, 3), (.ifCond .eq 23, 3), (.aload_n 0, 1), (.getfield 31, 3), (.iload_n 1, 1), (.aaload, 1), (.getfield 121, 3), (.iconst 1, 1), (.if_icmp .ne 10, 3), (.iload_n 2, 1), (.invokestatic 64, 3), (.ifCond .ne 6, 3)]),
  (28, [(.bipush (-2), 2), (.ireturn, 1)]),
  (31, [(.aload_n 0, 1), (.getfield 31, 3), (.iload_n 1, 1), (.aaload, 1), (.astore_n 3, 1), (.aload_n 3, 1), (.invokevirtual 137, 3), (.istore 4, 2), (.aload_n 0, 1), (.aload_n 3, 1), (.aload_n 3, 1), (.getfield 141, 3), (.aload_n 3, 1), (.getfield 144, 3), (.invokevirtual 147, 3), (.aload_n 0, 1), (.getfield 18, 3), (.aload_n 3, 1), (.iload_n 2, 1), (.invokevirtual 151, 3), (.istore 5, 2), (.iload 5, 2), (.iconst (-1), 1), (.if_icmp .ne 11, 3), (.aload_n 0, 1), (.aload_n 3, 1), (.iload_n 2, 1), (.invokevirtual 155, 3), (.istore 5, 2)]),
  (82, [(.iload 5, 2), (.iconst (-1), 1), (.if_icmp .ne 20, 3), (.aload_n 0, 1), (.aload_n 3, 1), (.iload 4, 2), (.aload_n 3, 1), (.getfield 141, 3), (.aload_n 3, 1), (.getfield 144, 3), (.invokevirtual 127, 3), (.iconst (-1), 1), (.ireturn, 1)]),
  (105, [(.aload_n 0, 1), (.aload_n 3, 1), (.iload 5, 2), (.aload_n 3, 1), (.getfield 141, 3), (.aload_n 3, 1), (.getfield 144, 3), (.invokevirtual 127, 3), (.aload_n 3, 1), (.iconst 2, 1), (.putfield 121, 3), (.aload_n 0, 1), (.getfield 18, 3), (.getfield 158, 3), (.iload 5, 2), (.iaload, 1), (.ireturn, 1)])]
set_option maxRecDepth 20000 in
theorem kX3_wish : am_all cX3_wish vwCl wsX3_wish RX3 flX3 nwX3 false [1, 2, 3] bX3_wish = true := by decide +kernel
def bX3_print : List (Nat × List (Instr × Nat)) := [(0, [(.aload_n 0, 1), (.iload_n 1, 1), (.invokevirtual 134, 3), (.ifCond .eq 28, 3), (.aload_n 0, 1), (.getfield 31, 3), (.iload_n 1, 1), (.aaload, 1), (.getfield 121, 3), (.iconst 3, 1), (.if_icmp .eq 15, 3), (.aload_n 0, 1), (.getfield 31, 3), (.iload_n 1, 1), (.aaload, 1), (.getfield 161, 3), (.ifCond .eq 5, 3)]),
  (33, [(.iconst 0, 1), (.ireturn, 1)]),
  (35, [(.aload_n 0, 1), (.getfield 31, 3), (.iload_n 1, 1), (.aaload, 1), (.iconst 2, 1), (.putfield 121, 3), (.aload_n 0, 1), (.getfield 31, 3), (.iload_n 1, 1), (.aaload, 1), (.iconst 1, 1), (.putfield 161, 3), (.iconst 1, 1), (.ireturn, 1)])]
set_option maxRecDepth 20000 in
theorem kX3_print : am_all cX3_print vwCl wsX3_print RX3 flX3 nwX3 false [1, 3] bX3_print = true := by decide +kernel
def bX3_cancel : List (Nat × List (Instr × Nat)) := [(0, [(.aload_n 0, 1), (.iload_n 1, 1), (.invokevirtual 134, 3), (.ifCond .ne 5, 3), (.iconst 0, 1), (.ireturn, 1)]),
  (10, [(.aload_n 0, 1), (.aload_n 0, 1), (.getfield 31, 3), (.iload_n 1, 1), (.aaload, 1), (.aload_n 0, 1), (.getfield 31, 3), (.iload_n 1, 1), (.aaload, 1), (.getfield 141, 3), (.aload_n 0, 1), (.getfield 31, 3), (.iload_n 1, 1), (.aaload, 1), (.getfield 144, 3), (.invokevirtual 147, 3), (.aload_n 0, 1), (.getfield 31, 3), (.iload_n 1, 1), (.aaload, 1), (.iconst 0, 1), (.putfield 121, 3), (.iconst 1, 1), (.ireturn, 1)])]
set_option maxRecDepth 20000 in
theorem kX3_cancel : am_all cX3_cancel vwCl wsX3_cancel RX3 flX3 nwX3 false [1, 3] bX3_cancel = true := by decide +kernel
def bX3_shorten : List (Nat × List (Instr × Nat)) := [(0, [(.aload_n 0, 1), (.iload_n 1, 1), (.invokevirtual 134, 3), (.ifCond .eq 16, 3), (.aload_n 0, 1), (.getfield 31, 3), (.iload_n 1, 1), (.aaload, 1), (.getfield 121, 3), (.iconst 3, 1), (.if_icmp .ne 5, 3)]),
  (21, [(.iconst 0, 1), (.ireturn, 1)]),
  (23, [(.aload_n 0, 1), (.getfield 31, 3), (.iload_n 1, 1), (.aaload, 1), (.astore 4, 2), (.iload_n 2, 1), (.aload 4, 2), (.getfield 141, 3), (.if_icmp .lt 17, 3), (.iload_n 3, 1), (.aload 4, 2), (.getfield 144, 3), (.if_icmp .gt 8, 3), (.iload_n 2, 1), (.iload_n 3, 1), (.if_icmp .lt 5, 3)]),
  (54, [(.iconst 0, 1), (.ireturn, 1)]),
  (56, [(.aload_n 0, 1), (.aload 4, 2), (.aload 4, 2), (.getfield 141, 3), (.iload_n 2, 1), (.invokevirtual 147, 3), (.aload_n 0, 1), (.aload 4, 2), (.iload_n 3, 1), (.aload 4, 2), (.getfield 144, 3), (.invokevirtual 147, 3), (.aload 4, 2), (.iload_n 2, 1), (.putfield 141, 3), (.aload 4, 2), (.iload_n 3, 1), (.putfield 144, 3), (.iconst 1, 1), (.ireturn, 1)])]
set_option maxRecDepth 20000 in
theorem kX3_shorten : am_all cX3_shorten vwCl wsX3_shorten RX3 flX3 nwX3 false [1, 3] bX3_shorten = true := by decide +kernel
def bX3_seatOf : List (Nat × List (Instr × Nat)) := [(0, [(.aload_n 0, 1), (.iload_n 1, 1), (.invokevirtual 134, 3), (.ifCond .eq 16, 3), (.aload_n 0, 1), (.getfield 31, 3), (.iload_n 1, 1), (.aaload, 1), (.iload_n 2, 1), (.invokevirtual 165, 3), (.ifCond .ne 5, 3)]),
  (21, [(.iconst (-1), 1), (.ireturn, 1)]),
  (23, [(.aload_n 0, 1), (.getfield 31, 3), (.iload_n 1, 1), (.aaload, 1), (.getfield 168, 3), (.iload_n 2, 1), (.iaload, 1), (.istore_n 3, 1), (.iload_n 3, 1), (.iconst (-1), 1), (.if_icmp .ne 7, 3), (.iconst (-1), 1), (.goto 12, 3)]),
  (44, [(.aload_n 0, 1), (.getfield 18, 3), (.getfield 158, 3), (.iload_n 3, 1), (.iaload, 1)]),
  (53, [(.ireturn, 1)])]
set_option maxRecDepth 20000 in
theorem kX3_seatOf : am_all cX3_seatOf vwCl wsX3_seatOf RX3 flX3 nwX3 false [1, 2, 3] bX3_seatOf = true := by decide +kernel
def bX3_block : List (Nat × List (Instr × Nat)) := [(0, [(.aload_n 0, 1), (.getfield 18, 3), (.iload_n 1, 1), (.iload_n 2, 1), (.invokevirtual 61, 3), (.istore 5, 2), (.iload 5, 2), (.iconst (-1), 1), (.if_icmp .eq 13, 3), (.aload_n 0, 1), (.iload_n 3, 1), (.iload 4, 2), (.invokevirtual 111, 3), (.ifCond .ne 6, 3)]),
  (27, [(.bipush (-2), 2), (.ireturn, 1)]),
  (30, [(.aload_n 0, 1), (.getfield 25, 3), (.invokevirtual 171, 3), (.ifCond .ne 15, 3), (.aload_n 0, 1), (.iload 5, 2), (.iload_n 3, 1), (.iload 4, 2), (.invokevirtual 175, 3), (.ifCond .eq 5, 3)]),
  (52, [(.iconst 0, 1), (.ireturn, 1)]),
  (54, [(.aload_n 0, 1), (.getfield 18, 3), (.getfield 178, 3), (.iload 5, 2), (.iaload, 1), (.iload_n 3, 1), (.iload 4, 2), (.invokestatic 87, 3), (.iand, 1), (.ifCond .ne 7, 3), (.iconst 1, 1), (.goto 4, 3)]),
  (78, [(.iconst 0, 1)]),
  (79, [(.istore 6, 2), (.aload_n 0, 1), (.getfield 25, 3), (.iload 5, 2), (.iload_n 3, 1), (.iload 4, 2), (.invokestatic 87, 3), (.invokevirtual 181, 3), (.aload_n 0, 1), (.getfield 18, 3), (.getfield 185, 3), (.iload 5, 2), (.aload_n 0, 1), (.getfield 25, 3), (.iload 5, 2), (.invokevirtual 188, 3), (.iastore, 1), (.iload 6, 2), (.ifCond .ne 21, 3), (.aload_n 0, 1), (.aload_n 0, 1), (.getfield 18, 3), (.getfield 191, 3), (.iload 5, 2), (.iaload, 1), (.aconst_null, 1), (.invokevirtual 194, 3), (.ifCond .eq 5, 3)]),
  (138, [(.iconst 1, 1), (.ireturn, 1)]),
  (140, [(.aload_n 0, 1), (.getfield 25, 3), (.iload 5, 2), (.iload_n 3, 1), (.iload 4, 2), (.invokestatic 87, 3), (.invokevirtual 198, 3), (.pop, 1), (.aload_n 0, 1), (.getfield 18, 3), (.getfield 185, 3), (.iload 5, 2), (.aload_n 0, 1), (.getfield 25, 3), (.iload 5, 2), (.invokevirtual 188, 3), (.iastore, 1), (.iconst 0, 1), (.ireturn, 1)])]
set_option maxRecDepth 20000 in
theorem kX3_block : am_all cX3_block vwCl wsX3_block RX3 flX3 nwX3 false [2, 3] bX3_block = true := by decide +kernel
def bX3_unblock : List (Nat × List (Instr × Nat)) := [(0, [(.aload_n 0, 1), (.getfield 18, 3), (.iload_n 1, 1), (.iload_n 2, 1), (.invokevirtual 61, 3), (.istore 5, 2), (.iload 5, 2), (.iconst (-1), 1), (.if_icmp .eq 31, 3), (.aload_n 0, 1), (.iload_n 3, 1), (.iload 4, 2), (.invokevirtual 111, 3), (.ifCond .eq 21, 3), (.aload_n 0, 1), (.getfield 25, 3), (.iload 5, 2), (.iload_n 3, 1), (.iload 4, 2), (.invokestatic 87, 3), (.invokevirtual 198, 3), (.ifCond .ne 5, 3)]),
  (45, [(.iconst 0, 1), (.ireturn, 1)]),
  (47, [(.aload_n 0, 1), (.getfield 18, 3), (.getfield 185, 3), (.iload 5, 2), (.aload_n 0, 1), (.getfield 25, 3), (.iload 5, 2), (.invokevirtual 188, 3), (.iastore, 1), (.iconst 1, 1), (.ireturn, 1)])]
set_option maxRecDepth 20000 in
theorem kX3_unblock : am_all cX3_unblock vwCl wsX3_unblock RX3 flX3 nwX3 false [2, 3] bX3_unblock = true := by decide +kernel
def bX3_removeCoach : List (Nat × List (Instr × Nat)) := [(0, [(.aload_n 0, 1), (.getfield 18, 3), (.iload_n 1, 1), (.invokevirtual 201, 3), (.ifCond .ne 6, 3), (.bipush (-2), 2), (.ireturn, 1)]),
  (14, [(.iconst 0, 1), (.istore_n 2, 1)]),
  (16, [(.iload_n 2, 1), (.aload_n 0, 1), (.getfield 101, 3), (.if_icmp .ge 71, 3), (.aload_n 0, 1), (.aload_n 0, 1), (.getfield 31, 3), (.iload_n 2, 1), (.aaload, 1), (.iload_n 1, 1), (.invokevirtual 204, 3), (.ifCond .eq 51, 3), (.aload_n 0, 1), (.aload_n 0, 1), (.getfield 31, 3), (.iload_n 2, 1), (.aaload, 1), (.aload_n 0, 1), (.getfield 31, 3), (.iload_n 2, 1), (.aaload, 1), (.getfield 141, 3), (.aload_n 0, 1), (.getfield 31, 3), (.iload_n 2, 1), (.aaload, 1), (.getfield 144, 3), (.invokevirtual 147, 3), (.aload_n 0, 1), (.getfield 31, 3), (.iload_n 2, 1), (.aaload, 1), (.iconst 0, 1), (.putfield 161, 3), (.aload_n 0, 1), (.getfield 31, 3), (.iload_n 2, 1), (.aaload, 1), (.iconst 4, 1), (.putfield 121, 3)]),
  (86, [(.iinc 2 1, 3), (.goto (-73), 3)]),
  (92, [(.aload_n 0, 1), (.getfield 25, 3), (.aload_n 0, 1), (.getfield 18, 3), (.iload_n 1, 1), (.invokevirtual 104, 3), (.aload_n 0, 1), (.getfield 18, 3), (.iload_n 1, 1), (.invokevirtual 108, 3), (.invokevirtual 208, 3), (.aload_n 0, 1), (.getfield 18, 3), (.iload_n 1, 1), (.invokevirtual 211, 3), (.aload_n 0, 1), (.invokevirtual 214, 3), (.ireturn, 1)])]
set_option maxRecDepth 20000 in
theorem kX3_removeCoach : am_all cX3_removeCoach vwCl wsX3_removeCoach RX3 flX3 nwX3 false [1, 3] bX3_removeCoach = true := by decide +kernel
def bX3_standing : List (Nat × List (Instr × Nat)) := [(0, [(.iload_n 1, 1), (.istore_n 2, 1), (.iconst 0, 1), (.istore_n 3, 1)]),
  (4, [(.iload_n 3, 1), (.aload_n 0, 1), (.getfield 101, 3), (.if_icmp .ge 31, 3), (.aload_n 0, 1), (.getfield 31, 3), (.iload_n 3, 1), (.aaload, 1), (.getfield 121, 3), (.iconst 3, 1), (.if_icmp .ne 12, 3), (.iload_n 2, 1), (.ifCond .ne 5, 3), (.iload_n 3, 1), (.ireturn, 1)]),
  (31, [(.iinc 2 (-1), 3)]),
  (34, [(.iinc 3 1, 3), (.goto (-33), 3)]),
  (40, [(.iconst (-1), 1), (.ireturn, 1)])]
set_option maxRecDepth 20000 in
theorem kX3_standing : am_all cX3_standing vwCl wsX3_standing RX3 flX3 nwX3 false [1, 3] bX3_standing = true := by decide +kernel
def bX3_load : List (Nat × List (Instr × Nat)) := [(0, [(.aload_n 0, 1), (.iload_n 1, 1), (.invokevirtual 70, 3), (.ifCond .eq 10, 3), (.iload_n 2, 1), (.invokestatic 50, 3), (.ifCond .ne 6, 3)]),
  (15, [(.bipush (-2), 2), (.ireturn, 1)]),
  (18, [(.aload_n 0, 1), (.iload_n 1, 1), (.iload_n 2, 1), (.invokevirtual 217, 3), (.ireturn, 1)])]
set_option maxRecDepth 20000 in
theorem kX3_load : am_all cX3_load vwCl wsX3_load RX3 flX3 nwX3 false [] bX3_load = true := by decide +kernel
def bX3_free : List (Nat × List (Instr × Nat)) := [(0, [(.aload_n 0, 1), (.iload_n 1, 1), (.invokevirtual 70, 3), (.ifCond .eq 10, 3), (.iload_n 2, 1), (.invokestatic 50, 3), (.ifCond .ne 6, 3)]),
  (15, [(.bipush (-2), 2), (.ireturn, 1)]),
  (18, [(.aload_n 0, 1), (.getfield 18, 3), (.iload_n 1, 1), (.iload_n 1, 1), (.iconst 1, 1), (.iadd, 1), (.invokestatic 87, 3), (.iload_n 2, 1), (.invokevirtual 220, 3), (.ireturn, 1)])]
set_option maxRecDepth 20000 in
theorem kX3_free : am_all cX3_free vwCl wsX3_free RX3 flX3 nwX3 false [3] bX3_free = true := by decide +kernel
def bX3_moved : List (Nat × List (Instr × Nat)) := [(0, [(.aload_n 0, 1), (.getfield 223, 3), (.ireturn, 1)])]
set_option maxRecDepth 20000 in
theorem kX3_moved : am_all cX3_moved vwCl wsX3_moved RX3 flX3 nwX3 false [3] bX3_moved = true := by decide +kernel
def bX3_manifest : List (Nat × List (Instr × Nat)) := [(0, [(.iload_n 2, 1), (.istore_n 3, 1), (.iconst 0, 1), (.istore 4, 2)]),
  (5, [(.iload 4, 2), (.iconst 2, 1), (.if_icmp .ge 86, 3), (.iconst 0, 1), (.istore 5, 2)]),
  (14, [(.iload 5, 2), (.aload_n 0, 1), (.getfield 101, 3), (.if_icmp .ge 68, 3), (.iload 4, 2), (.ifCond .ne 16, 3), (.aload_n 0, 1), (.getfield 31, 3), (.iload 5, 2), (.aaload, 1), (.getfield 144, 3), (.goto 13, 3)]),
  (41, [(.aload_n 0, 1), (.getfield 31, 3), (.iload 5, 2), (.aaload, 1), (.getfield 141, 3)]),
  (51, [(.istore 6, 2), (.iload 6, 2), (.iload_n 1, 1), (.if_icmp .ne 26, 3), (.aload_n 0, 1), (.getfield 31, 3), (.iload 5, 2), (.aaload, 1), (.invokevirtual 226, 3), (.ifCond .eq 13, 3), (.iload_n 3, 1), (.ifCond .ne 6, 3), (.iload 5, 2), (.ireturn, 1)]),
  (79, [(.iinc 3 (-1), 3)]),
  (82, [(.iinc 5 1, 3), (.goto (-71), 3)]),
  (88, [(.iinc 4 1, 3), (.goto (-86), 3)]),
  (94, [(.iconst (-1), 1), (.ireturn, 1)])]
set_option maxRecDepth 20000 in
theorem kX3_manifest : am_all cX3_manifest vwCl wsX3_manifest RX3 flX3 nwX3 false [1, 3] bX3_manifest = true := by decide +kernel
def bX3_isStretch : List (Nat × List (Instr × Nat)) := [(0, [(.iload_n 1, 1), (.ifCond .lt 15, 3), (.iload_n 1, 1), (.aload_n 0, 1), (.getfield 9, 3), (.if_icmp .ge 7, 3), (.iconst 1, 1), (.goto 4, 3)]),
  (16, [(.iconst 0, 1)]),
  (17, [(.ireturn, 1)])]
set_option maxRecDepth 20000 in
theorem kX3_isStretch : am_all cX3_isStretch vwCl wsX3_isStretch RX3 flX3 nwX3 false [3] bX3_isStretch = true := by decide +kernel
def bX3_isWay : List (Nat × List (Instr × Nat)) := [(0, [(.iload_n 1, 1), (.ifCond .lt 20, 3), (.iload_n 1, 1), (.iload_n 2, 1), (.if_icmp .ge 15, 3), (.iload_n 2, 1), (.aload_n 0, 1), (.getfield 9, 3), (.if_icmp .gt 7, 3), (.iconst 1, 1), (.goto 4, 3)]),
  (21, [(.iconst 0, 1)]),
  (22, [(.ireturn, 1)])]
set_option maxRecDepth 20000 in
theorem kX3_isWay : am_all cX3_isWay vwCl wsX3_isWay RX3 flX3 nwX3 false [3] bX3_isWay = true := by decide +kernel
def bX3_isClass : List (Nat × List (Instr × Nat)) := [(0, [(.iload_n 0, 1), (.ifCond .lt 12, 3), (.iload_n 0, 1), (.iconst 2, 1), (.if_icmp .ge 7, 3), (.iconst 1, 1), (.goto 4, 3)]),
  (13, [(.iconst 0, 1)]),
  (14, [(.ireturn, 1)])]
set_option maxRecDepth 20000 in
theorem kX3_isClass : am_all cX3_isClass vwCl wsX3_isClass RX3 flX3 nwX3 false [] bX3_isClass = true := by decide +kernel
def bX3_isMask : List (Nat × List (Instr × Nat)) := [(0, [(.iload_n 0, 1), (.ifCond .lt 14, 3), (.iload_n 0, 1), (.sipush 255, 3), (.if_icmp .gt 7, 3), (.iconst 1, 1), (.goto 4, 3)]),
  (15, [(.iconst 0, 1)]),
  (16, [(.ireturn, 1)])]
set_option maxRecDepth 20000 in
theorem kX3_isMask : am_all cX3_isMask vwCl wsX3_isMask RX3 flX3 nwX3 false [] bX3_isMask = true := by decide +kernel
def bX3_isAgency : List (Nat × List (Instr × Nat)) := [(0, [(.iload_n 0, 1), (.ifCond .lt 12, 3), (.iload_n 0, 1), (.iconst 4, 1), (.if_icmp .ge 7, 3), (.iconst 1, 1), (.goto 4, 3)]),
  (13, [(.iconst 0, 1)]),
  (14, [(.ireturn, 1)])]
set_option maxRecDepth 20000 in
theorem kX3_isAgency : am_all cX3_isAgency vwCl wsX3_isAgency RX3 flX3 nwX3 false [] bX3_isAgency = true := by decide +kernel
def bX3_isLiving : List (Nat × List (Instr × Nat)) := [(0, [(.iload_n 1, 1), (.ifCond .lt 27, 3), (.iload_n 1, 1), (.aload_n 0, 1), (.getfield 101, 3), (.if_icmp .ge 19, 3), (.aload_n 0, 1), (.getfield 31, 3), (.iload_n 1, 1), (.aaload, 1), (.invokevirtual 226, 3), (.ifCond .eq 7, 3), (.iconst 1, 1), (.goto 4, 3)]),
  (28, [(.iconst 0, 1)]),
  (29, [(.ireturn, 1)])]
set_option maxRecDepth 20000 in
theorem kX3_isLiving : am_all cX3_isLiving vwCl wsX3_isLiving RX3 flX3 nwX3 false [3] bX3_isLiving = true := by decide +kernel
def bX3_canBook : List (Nat × List (Instr × Nat)) := [(0, [(.aload_n 0, 1), (.iload_n 1, 1), (.iload_n 2, 1), (.invokevirtual 111, 3), (.ifCond .eq 19, 3), (.aload_n 0, 1), (.getfield 101, 3), (.iload_n 3, 1), (.iadd, 1), (.sipush 150, 3), (.if_icmp .gt 7, 3), (.iconst 1, 1), (.goto 4, 3)]),
  (25, [(.iconst 0, 1)]),
  (26, [(.ireturn, 1)])]
set_option maxRecDepth 20000 in
theorem kX3_canBook : am_all cX3_canBook vwCl wsX3_canBook RX3 flX3 nwX3 false [3] bX3_canBook = true := by decide +kernel
def bX3_way : List (Nat × List (Instr × Nat)) := [(0, [(.iconst 1, 1), (.iload_n 1, 1), (.ishl, 1), (.iconst 1, 1), (.iload_n 0, 1), (.ishl, 1), (.isub, 1), (.ireturn, 1)])]
set_option maxRecDepth 20000 in
theorem kX3_way : am_all cX3_way vwCl wsX3_way RX3 flX3 nwX3 false [] bX3_way = true := by decide +kernel
def bX3_bookMovable : List (Nat × List (Instr × Nat)) := [(0, [(.aload_n 0, 1), (.iload_n 1, 1), (.iload_n 2, 1), (.iload_n 3, 1), (.iload 4, 2), (.invokevirtual 117, 3), (.astore 5, 2), (.aload_n 0, 1), (.aload 5, 2), (.invokevirtual 246, 3), (.ifCond .eq 9, 3), (.aload 5, 2), (.getfield 131, 3), (.ireturn, 1)]),
  (26, [(.aload_n 0, 1), (.dup, 1), (.getfield 101, 3), (.iconst 1, 1), (.isub, 1), (.putfield 101, 3), (.aload_n 0, 1), (.iload_n 1, 1), (.iload_n 2, 1), (.iload_n 3, 1), (.invokevirtual 250, 3), (.ifCond .eq 8, 3), (.bipush (-4), 2), (.goto 5, 3)]),
  (51, [(.bipush (-3), 2)]),
  (53, [(.ireturn, 1)])]
set_option maxRecDepth 20000 in
theorem kX3_bookMovable : am_all cX3_bookMovable vwCl wsX3_bookMovable RX3 flX3 nwX3 false [1, 3] bX3_bookMovable = true := by decide +kernel
def bX3_bookFixed : List (Nat × List (Instr × Nat)) := [(0, [(.aload_n 0, 1), (.iload_n 1, 1), (.iload_n 2, 1), (.aload_n 0, 1), (.getfield 18, 3), (.getfield 191, 3), (.iload_n 3, 1), (.iaload, 1), (.iconst (-1), 1), (.invokevirtual 117, 3), (.astore 4, 2), (.aload 4, 2), (.iconst 2, 1), (.putfield 121, 3), (.aload_n 0, 1), (.aload 4, 2), (.iload_n 3, 1), (.iload_n 1, 1), (.iload_n 2, 1), (.invokevirtual 127, 3), (.aload 4, 2), (.getfield 131, 3), (.ireturn, 1)])]
set_option maxRecDepth 20000 in
theorem kX3_bookFixed : am_all cX3_bookFixed vwCl wsX3_bookFixed RX3 flX3 nwX3 false [1, 2, 3] bX3_bookFixed = true := by decide +kernel
def bX3_enter : List (Nat × List (Instr × Nat)) := [(0, [(.aload_n 0, 1), (.getfield 31, 3), (.aload_n 0, 1), (.getfield 101, 3), (.aaload, 1), (.ifnonnull 27, 3), (.aload_n 0, 1), (.getfield 31, 3), (.aload_n 0, 1), (.getfield 101, 3), (.new 29, 3), (.dup, 1), (.aload_n 0, 1), (.getfield 101, 3), (.aload_n 0, 1), (.getfield 9, 3), (.invokespecial 253, 3), (.aastore, 1)]),
  (36, [(.aload_n 0, 1), (.getfield 31, 3), (.aload_n 0, 1), (.getfield 101, 3), (.aaload, 1), (.astore 5, 2), (.aload 5, 2), (.iload_n 1, 1), (.iload_n 2, 1), (.iload_n 3, 1), (.iload 4, 2), (.invokevirtual 255, 3), (.aload_n 0, 1), (.dup, 1), (.getfield 101, 3), (.iconst 1, 1), (.iadd, 1), (.putfield 101, 3), (.aload 5, 2), (.areturn, 1)])]
set_option maxRecDepth 20000 in
theorem kX3_enter : am_all cX3_enter vwCl wsX3_enter RX3 flX3 nwX3 false [1, 3] bX3_enter = true := by decide +kernel
def bX3_sit : List (Nat × List (Instr × Nat)) := [(0, [(.aload_n 1, 1), (.iload_n 2, 1), (.iload_n 3, 1), (.iload 4, 2), (.invokevirtual 259, 3), (.iload_n 2, 1), (.iconst (-1), 1), (.if_icmp .eq 21, 3), (.aload_n 0, 1), (.getfield 18, 3), (.getfield 178, 3), (.iload_n 2, 1), (.dup2, 1), (.iaload, 1), (.iload_n 3, 1), (.iload 4, 2), (.invokestatic 87, 3), (.ior, 1), (.iastore, 1)]),
  (31, [(.return_, 1)])]
set_option maxRecDepth 20000 in
theorem kX3_sit : am_all cX3_sit vwCl wsX3_sit RX3 flX3 nwX3 false [2, 3] bX3_sit = true := by decide +kernel
def bX3_leave : List (Nat × List (Instr × Nat)) := [(0, [(.iload_n 2, 1), (.istore 4, 2)]),
  (3, [(.iload 4, 2), (.iload_n 3, 1), (.if_icmp .ge 48, 3), (.aload_n 1, 1), (.getfield 168, 3), (.iload 4, 2), (.iaload, 1), (.istore 5, 2), (.iload 5, 2), (.iconst (-1), 1), (.if_icmp .eq 27, 3), (.aload_n 0, 1), (.getfield 18, 3), (.getfield 178, 3), (.iload 5, 2), (.dup2, 1), (.iaload, 1), (.iload 4, 2), (.iload 4, 2), (.iconst 1, 1), (.iadd, 1), (.invokestatic 87, 3), (.iconst (-1), 1), (.ixor, 1), (.iand, 1), (.iastore, 1)]),
  (48, [(.iinc 4 1, 3), (.goto (-48), 3)]),
  (54, [(.aload_n 1, 1), (.iconst (-1), 1), (.iload_n 2, 1), (.iload_n 3, 1), (.invokevirtual 259, 3), (.return_, 1)])]
set_option maxRecDepth 20000 in
theorem kX3_leave : am_all cX3_leave vwCl wsX3_leave RX3 flX3 nwX3 false [1, 2, 3] bX3_leave = true := by decide +kernel
def bX3_place : List (Nat × List (Instr × Nat)) := [(0, [(.aload_n 0, 1), (.getfield 18, 3), (.aload_n 1, 1), (.invokevirtual 263, 3), (.istore_n 2, 1), (.iload_n 2, 1), (.iconst (-1), 1), (.if_icmp .ne 13, 3), (.aload_n 0, 1), (.aload_n 1, 1), (.getfield 236, 3), (.aload_n 1, 1), (.invokevirtual 194, 3), (.ireturn, 1)]),
  (24, [(.aload_n 0, 1), (.aload_n 1, 1), (.iload_n 2, 1), (.aload_n 1, 1), (.getfield 141, 3), (.aload_n 1, 1), (.getfield 144, 3), (.invokevirtual 127, 3), (.iconst 1, 1), (.ireturn, 1)])]
set_option maxRecDepth 20000 in
theorem kX3_place : am_all cX3_place vwCl wsX3_place RX3 flX3 nwX3 false [1, 3] bX3_place = true := by decide +kernel
def bX3_sweep : List (Nat × List (Instr × Nat)) := [(0, [(.aload_n 0, 1), (.iload_n 1, 1), (.aconst_null, 1), (.invokevirtual 267, 3), (.istore_n 3, 1), (.aload_n 0, 1), (.getfield 18, 3), (.getfield 178, 3), (.iconst 0, 1), (.aload_n 0, 1), (.getfield 47, 3), (.iconst 0, 1), (.bipush 80, 2), (.invokestatic 271, 3), (.aload_n 0, 1), (.iload_n 3, 1), (.invokevirtual 277, 3), (.aload_n 0, 1), (.iload_n 3, 1), (.invokevirtual 280, 3), (.ifCond .ne 23, 3), (.aload_n 0, 1), (.getfield 47, 3), (.iconst 0, 1), (.aload_n 0, 1), (.getfield 18, 3), (.getfield 178, 3), (.iconst 0, 1), (.bipush 80, 2), (.invokestatic 271, 3), (.iconst 0, 1), (.ireturn, 1)]),
  (58, [(.aload_n 0, 1), (.iload_n 3, 1), (.aload_n 2, 1), (.invokevirtual 283, 3), (.iconst 1, 1), (.ireturn, 1)])]
set_option maxRecDepth 20000 in
theorem kX3_sweep : am_all cX3_sweep vwCl wsX3_sweep RX3 flX3 nwX3 false [2, 3] bX3_sweep = true := by decide +kernel
def bX3_clearForWish : List (Nat × List (Instr × Nat)) := [(0, [(.aload_n 0, 1), (.aload_n 1, 1), (.getfield 236, 3), (.aload_n 1, 1), (.invokevirtual 267, 3), (.istore_n 3, 1), (.aload_n 0, 1), (.getfield 18, 3), (.getfield 178, 3), (.iconst 0, 1), (.aload_n 0, 1), (.getfield 47, 3), (.iconst 0, 1), (.bipush 80, 2), (.invokestatic 271, 3), (.iconst 0, 1), (.istore 4, 2)]),
  (31, [(.iload 4, 2), (.aload_n 0, 1), (.getfield 18, 3), (.getfield 287, 3), (.if_icmp .ge 99, 3), (.aload_n 0, 1), (.getfield 18, 3), (.iload 4, 2), (.aload_n 1, 1), (.getfield 236, 3), (.iload_n 2, 1), (.invokevirtual 290, 3), (.ifCond .eq 76, 3), (.aload_n 0, 1), (.iload_n 3, 1), (.invokevirtual 277, 3), (.aload_n 0, 1), (.getfield 18, 3), (.iload 4, 2), (.aload_n 1, 1), (.invokevirtual 293, 3), (.invokevirtual 90, 3), (.ifCond .eq 37, 3), (.aload_n 0, 1), (.getfield 18, 3), (.getfield 178, 3), (.iload 4, 2), (.dup2, 1), (.iaload, 1), (.aload_n 1, 1), (.invokevirtual 293, 3), (.ior, 1), (.iastore, 1), (.aload_n 0, 1), (.iload_n 3, 1), (.invokevirtual 280, 3), (.ifCond .eq 12, 3), (.aload_n 0, 1), (.iload_n 3, 1), (.aload_n 1, 1), (.invokevirtual 283, 3), (.iload 4, 2), (.ireturn, 1)]),
  (115, [(.aload_n 0, 1), (.getfield 47, 3), (.iconst 0, 1), (.aload_n 0, 1), (.getfield 18, 3), (.getfield 178, 3), (.iconst 0, 1), (.bipush 80, 2), (.invokestatic 271, 3)]),
  (133, [(.iinc 4 1, 3), (.goto (-105), 3)]),
  (139, [(.iconst (-1), 1), (.ireturn, 1)])]
set_option maxRecDepth 20000 in
theorem kX3_clearForWish : am_all cX3_clearForWish vwCl wsX3_clearForWish RX3 flX3 nwX3 false [1, 2, 3] bX3_clearForWish = true := by decide +kernel
def bX3_lineUp : List (Nat × List (Instr × Nat)) := [(0, [(.iconst 0, 1), (.istore_n 3, 1), (.iconst 0, 1), (.istore 4, 2)]),
  (5, [(.iload 4, 2), (.aload_n 0, 1), (.getfield 9, 3), (.if_icmp .ge 81, 3), (.iconst 0, 1), (.istore 5, 2)]),
  (17, [(.iload 5, 2), (.aload_n 0, 1), (.getfield 101, 3), (.if_icmp .ge 63, 3), (.aload_n 0, 1), (.getfield 31, 3), (.iload 5, 2), (.aaload, 1), (.astore 6, 2), (.aload 6, 2), (.getfield 141, 3), (.iload 4, 2), (.if_icmp .ne 38, 3), (.aload 6, 2), (.getfield 121, 3), (.iconst 1, 1), (.if_icmp .ne 29, 3), (.aload 6, 2), (.getfield 236, 3), (.iload_n 1, 1), (.if_icmp .ne 20, 3), (.aload 6, 2), (.aload_n 2, 1), (.if_acmp .eq 14, 3), (.aload_n 0, 1), (.getfield 40, 3), (.iload_n 3, 1), (.aload 6, 2), (.aastore, 1), (.iinc 3 1, 3)]),
  (80, [(.iinc 5 1, 3), (.goto (-66), 3)]),
  (86, [(.iinc 4 1, 3), (.goto (-84), 3)]),
  (92, [(.iload_n 3, 1), (.ireturn, 1)])]
set_option maxRecDepth 20000 in
theorem kX3_lineUp : am_all cX3_lineUp vwCl wsX3_lineUp RX3 flX3 nwX3 false [1, 3] bX3_lineUp = true := by decide +kernel
def bX3_standUp : List (Nat × List (Instr × Nat)) := [(0, [(.iconst 0, 1), (.istore_n 2, 1)]),
  (2, [(.iload_n 2, 1), (.iload_n 1, 1), (.if_icmp .ge 47, 3), (.aload_n 0, 1), (.getfield 40, 3), (.iload_n 2, 1), (.aaload, 1), (.invokevirtual 137, 3), (.istore_n 3, 1), (.iload_n 3, 1), (.iconst (-1), 1), (.if_icmp .eq 26, 3), (.aload_n 0, 1), (.getfield 18, 3), (.getfield 178, 3), (.iload_n 3, 1), (.dup2, 1), (.iaload, 1), (.aload_n 0, 1), (.getfield 40, 3), (.iload_n 2, 1), (.aaload, 1), (.invokevirtual 293, 3), (.iconst (-1), 1), (.ixor, 1), (.iand, 1), (.iastore, 1)]),
  (45, [(.iinc 2 1, 3), (.goto (-46), 3)]),
  (51, [(.return_, 1)])]
set_option maxRecDepth 20000 in
theorem kX3_standUp : am_all cX3_standUp vwCl wsX3_standUp RX3 flX3 nwX3 false [2, 3] bX3_standUp = true := by decide +kernel
def bX3_findSeats : List (Nat × List (Instr × Nat)) := [(0, [(.iconst 0, 1), (.istore_n 2, 1)]),
  (2, [(.iload_n 2, 1), (.iload_n 1, 1), (.if_icmp .ge 58, 3), (.aload_n 0, 1), (.getfield 18, 3), (.aload_n 0, 1), (.getfield 40, 3), (.iload_n 2, 1), (.aaload, 1), (.invokevirtual 263, 3), (.istore_n 3, 1), (.iload_n 3, 1), (.iconst (-1), 1), (.if_icmp .ne 5, 3), (.iconst 0, 1), (.ireturn, 1)]),
  (28, [(.aload_n 0, 1), (.getfield 43, 3), (.iload_n 2, 1), (.iload_n 3, 1), (.iastore, 1), (.aload_n 0, 1), (.getfield 18, 3), (.getfield 178, 3), (.iload_n 3, 1), (.dup2, 1), (.iaload, 1), (.aload_n 0, 1), (.getfield 40, 3), (.iload_n 2, 1), (.aaload, 1), (.invokevirtual 293, 3), (.ior, 1), (.iastore, 1), (.iinc 2 1, 3), (.goto (-57), 3)]),
  (62, [(.iconst 1, 1), (.ireturn, 1)])]
set_option maxRecDepth 20000 in
theorem kX3_findSeats : am_all cX3_findSeats vwCl wsX3_findSeats RX3 flX3 nwX3 false [2, 3] bX3_findSeats = true := by decide +kernel
def bX3_settle : List (Nat × List (Instr × Nat)) := [(0, [(.iconst 0, 1), (.istore_n 3, 1)]),
  (2, [(.iload_n 3, 1), (.iload_n 1, 1), (.if_icmp .ge 68, 3), (.aload_n 0, 1), (.getfield 40, 3), (.iload_n 3, 1), (.aaload, 1), (.astore 4, 2), (.aload 4, 2), (.aload_n 2, 1), (.if_acmp .eq 27, 3), (.aload 4, 2), (.invokevirtual 137, 3), (.aload_n 0, 1), (.getfield 43, 3), (.iload_n 3, 1), (.iaload, 1), (.if_icmp .eq 13, 3), (.aload_n 0, 1), (.dup, 1), (.getfield 223, 3), (.iconst 1, 1), (.iadd, 1), (.putfield 223, 3)]),
  (45, [(.aload 4, 2), (.aload_n 0, 1), (.getfield 43, 3), (.iload_n 3, 1), (.iaload, 1), (.aload 4, 2), (.getfield 141, 3), (.aload 4, 2), (.getfield 144, 3), (.invokevirtual 259, 3), (.iinc 3 1, 3), (.goto (-67), 3)]),
  (72, [(.return_, 1)])]
set_option maxRecDepth 20000 in
theorem kX3_settle : am_all cX3_settle vwCl wsX3_settle RX3 flX3 nwX3 false [1, 3] bX3_settle = true := by decide +kernel
def bX3_seatAnew : List (Nat × List (Instr × Nat)) := [(0, [(.iconst 0, 1), (.istore_n 1, 1), (.iconst 0, 1), (.istore_n 2, 1)]),
  (4, [(.iload_n 2, 1), (.aload_n 0, 1), (.getfield 101, 3), (.if_icmp .ge 58, 3), (.aload_n 0, 1), (.getfield 31, 3), (.iload_n 2, 1), (.aaload, 1), (.getfield 121, 3), (.iconst 4, 1), (.if_icmp .ne 39, 3), (.aload_n 0, 1), (.getfield 31, 3), (.iload_n 2, 1), (.aaload, 1), (.iconst 1, 1), (.putfield 121, 3), (.aload_n 0, 1), (.aload_n 0, 1), (.getfield 31, 3), (.iload_n 2, 1), (.aaload, 1), (.invokevirtual 246, 3), (.ifCond .ne 16, 3), (.aload_n 0, 1), (.getfield 31, 3), (.iload_n 2, 1), (.aaload, 1), (.iconst 3, 1), (.putfield 121, 3), (.iinc 1 1, 3)]),
  (61, [(.iinc 2 1, 3), (.goto (-60), 3)]),
  (67, [(.iload_n 1, 1), (.ireturn, 1)])]
set_option maxRecDepth 20000 in
theorem kX3_seatAnew : am_all cX3_seatAnew vwCl wsX3_seatAnew RX3 flX3 nwX3 false [1, 3] bX3_seatAnew = true := by decide +kernel
def bX3_hasSeatIn : List (Nat × List (Instr × Nat)) := [(0, [(.aload_n 1, 1), (.getfield 141, 3), (.istore_n 3, 1)]),
  (5, [(.iload_n 3, 1), (.aload_n 1, 1), (.getfield 144, 3), (.if_icmp .ge 51, 3), (.aload_n 1, 1), (.getfield 168, 3), (.iload_n 3, 1), (.iaload, 1), (.istore 4, 2), (.iload 4, 2), (.iconst (-1), 1), (.if_icmp .eq 31, 3), (.iload 4, 2), (.aload_n 0, 1), (.getfield 18, 3), (.iload_n 2, 1), (.invokevirtual 104, 3), (.if_icmp .lt 18, 3), (.iload 4, 2), (.aload_n 0, 1), (.getfield 18, 3), (.iload_n 2, 1), (.invokevirtual 108, 3), (.if_icmp .ge 5, 3), (.iconst 1, 1), (.ireturn, 1)]),
  (55, [(.iinc 3 1, 3), (.goto (-53), 3)]),
  (61, [(.iconst 0, 1), (.ireturn, 1)])]
set_option maxRecDepth 20000 in
theorem kX3_hasSeatIn : am_all cX3_hasSeatIn vwCl wsX3_hasSeatIn RX3 flX3 nwX3 false [1, 3] bX3_hasSeatIn = true := by decide +kernel
def bX3_isFixedRideOn : List (Nat × List (Instr × Nat)) := [(0, [(.iconst 0, 1), (.istore 4, 2)]),
  (3, [(.iload 4, 2), (.aload_n 0, 1), (.getfield 101, 3), (.if_icmp .ge 57, 3), (.aload_n 0, 1), (.getfield 31, 3), (.iload 4, 2), (.aaload, 1), (.getfield 121, 3), (.iconst 2, 1), (.if_icmp .ne 37, 3), (.iload_n 2, 1), (.istore 5, 2)]),
  (29, [(.iload 5, 2), (.iload_n 3, 1), (.if_icmp .ge 28, 3), (.aload_n 0, 1), (.getfield 31, 3), (.iload 4, 2), (.aaload, 1), (.getfield 168, 3), (.iload 5, 2), (.iaload, 1), (.iload_n 1, 1), (.if_icmp .ne 5, 3), (.iconst 1, 1), (.ireturn, 1)]),
  (54, [(.iinc 5 1, 3), (.goto (-28), 3)]),
  (60, [(.iinc 4 1, 3), (.goto (-60), 3)]),
  (66, [(.iconst 0, 1), (.ireturn, 1)])]
set_option maxRecDepth 20000 in
theorem kX3_isFixedRideOn : am_all cX3_isFixedRideOn vwCl wsX3_isFixedRideOn RX3 flX3 nwX3 false [1, 3] bX3_isFixedRideOn = true := by decide +kernel
def bX3_fewestChanges : List (Nat × List (Instr × Nat)) := [(0, [(.iconst (-1), 1), (.istore 4, 2), (.iload_n 1, 1), (.istore 5, 2), (.iload_n 1, 1), (.istore 6, 2)]),
  (9, [(.iload 6, 2), (.iload_n 2, 1), (.if_icmp .ge 54, 3), (.iload 5, 2), (.iload_n 2, 1), (.if_icmp .ge 48, 3), (.aload_n 0, 1), (.getfield 18, 3), (.iload 5, 2), (.iload_n 3, 1), (.invokevirtual 124, 3), (.istore 7, 2), (.iload 7, 2), (.iconst (-1), 1), (.if_icmp .ne 5, 3), (.iconst (-1), 1), (.ireturn, 1)]),
  (41, [(.iload 5, 2), (.aload_n 0, 1), (.getfield 18, 3), (.iload 5, 2), (.iload 7, 2), (.invokevirtual 295, 3), (.iadd, 1), (.istore 5, 2), (.iinc 4 1, 3), (.iinc 6 1, 3), (.goto (-54), 3)]),
  (66, [(.iload 4, 2), (.ireturn, 1)])]
set_option maxRecDepth 20000 in
theorem kX3_fewestChanges : am_all cX3_fewestChanges vwCl wsX3_fewestChanges RX3 flX3 nwX3 false [3] bX3_fewestChanges = true := by decide +kernel
def bX3_ridesOn : List (Nat × List (Instr × Nat)) := [(0, [(.iconst 0, 1), (.istore_n 3, 1), (.iconst 0, 1), (.istore 4, 2)]),
  (5, [(.iload 4, 2), (.aload_n 0, 1), (.getfield 101, 3), (.if_icmp .ge 53, 3), (.aload_n 0, 1), (.getfield 31, 3), (.iload 4, 2), (.aaload, 1), (.invokevirtual 226, 3), (.ifCond .eq 34, 3), (.aload_n 0, 1), (.getfield 31, 3), (.iload 4, 2), (.aaload, 1), (.getfield 236, 3), (.iload_n 2, 1), (.if_icmp .ne 20, 3), (.aload_n 0, 1), (.getfield 31, 3), (.iload 4, 2), (.aaload, 1), (.iload_n 1, 1), (.invokevirtual 165, 3), (.ifCond .eq 6, 3), (.iinc 3 1, 3)]),
  (58, [(.iinc 4 1, 3), (.goto (-56), 3)]),
  (64, [(.iload_n 3, 1), (.ireturn, 1)])]
set_option maxRecDepth 20000 in
theorem kX3_ridesOn : am_all cX3_ridesOn vwCl wsX3_ridesOn RX3 flX3 nwX3 false [1, 3] bX3_ridesOn = true := by decide +kernel
def bX3_hasRoomByLoad : List (Nat × List (Instr × Nat)) := [(0, [(.aload_n 0, 1), (.getfield 18, 3), (.iload_n 3, 1), (.invokevirtual 298, 3), (.istore 4, 2), (.iload_n 1, 1), (.istore 5, 2)]),
  (13, [(.iload 5, 2), (.iload_n 2, 1), (.if_icmp .ge 23, 3), (.aload_n 0, 1), (.iload 5, 2), (.iload_n 3, 1), (.invokevirtual 217, 3), (.iload 4, 2), (.if_icmp .lt 5, 3), (.iconst 0, 1), (.ireturn, 1)]),
  (33, [(.iinc 5 1, 3), (.goto (-23), 3)]),
  (39, [(.iconst 1, 1), (.ireturn, 1)])]
set_option maxRecDepth 20000 in
theorem kX3_hasRoomByLoad : am_all cX3_hasRoomByLoad vwCl wsX3_hasRoomByLoad RX3 flX3 nwX3 false [3] bX3_hasRoomByLoad = true := by decide +kernel
def bX3_isOverQuota : List (Nat × List (Instr × Nat)) := [(0, [(.iload_n 2, 1), (.istore 4, 2)]),
  (3, [(.iload 4, 2), (.iload_n 3, 1), (.if_icmp .ge 91, 3), (.iconst 1, 1), (.istore 5, 2), (.iconst 0, 1), (.istore 6, 2)]),
  (15, [(.iload 6, 2), (.aload_n 0, 1), (.getfield 101, 3), (.if_icmp .ge 54, 3), (.aload_n 0, 1), (.getfield 31, 3), (.iload 6, 2), (.aaload, 1), (.invokevirtual 226, 3), (.ifCond .eq 35, 3), (.aload_n 0, 1), (.getfield 31, 3), (.iload 6, 2), (.aaload, 1), (.getfield 238, 3), (.iload_n 1, 1), (.if_icmp .ne 21, 3), (.aload_n 0, 1), (.getfield 31, 3), (.iload 6, 2), (.aaload, 1), (.iload 4, 2), (.invokevirtual 165, 3), (.ifCond .eq 6, 3), (.iinc 5 1, 3)]),
  (69, [(.iinc 6 1, 3), (.goto (-57), 3)]),
  (75, [(.iload 5, 2), (.aload_n 0, 1), (.getfield 37, 3), (.iload_n 1, 1), (.aaload, 1), (.iload 4, 2), (.iaload, 1), (.if_icmp .le 5, 3), (.iconst 1, 1), (.ireturn, 1)]),
  (91, [(.iinc 4 1, 3), (.goto (-91), 3)]),
  (97, [(.iconst 0, 1), (.ireturn, 1)])]
set_option maxRecDepth 20000 in
theorem kX3_isOverQuota : am_all cX3_isOverQuota vwCl wsX3_isOverQuota RX3 flX3 nwX3 false [1, 3] bX3_isOverQuota = true := by decide +kernel
