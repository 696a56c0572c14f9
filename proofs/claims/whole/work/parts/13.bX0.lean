/-! blocks of SeatDesk$Blocks, by program out of javap's listing -/
def flX0 : Nat → Nat × Nat := fun x => match x with
  | 9 => (0, 0)
  | 15 => (0, 1)
  | 18 => (0, 2)
  | _ => (0, 0)
def nwX0 : Nat → Nat := fun x => match x with
  | _ => 0
theorem flX0_9 : flX0 9 = (0, 0) := rfl
theorem flX0_15 : flX0 15 = (0, 1) := rfl
theorem flX0_18 : flX0 18 = (0, 2) := rfl
def bX0_init : List (Nat × List (Instr × Nat)) := [(0, [(.aload_n 0, 1), (.invokespecial 3, 3), (.aload_n 0, 1), (.sipush 512, 3), (.newarray .int, 2), (.putfield 9, 3), (.aload_n 0, 1), (.sipush 512, 3), (.newarray .int, 2), (.putfield 15, 3), (.return_, 1)])]
set_option maxRecDepth 20000 in
theorem kX0_init : am_all cX0_init vwCl wsX0_init RX0 flX0 nwX0 true [0] bX0_init = true := by decide +kernel
def bX0_isFull : List (Nat × List (Instr × Nat)) := [(0, [(.aload_n 0, 1), (.getfield 18, 3), (.sipush 512, 3), (.if_icmp .lt 7, 3), (.iconst 1, 1), (.goto 4, 3)]),
  (14, [(.iconst 0, 1)]),
  (15, [(.ireturn, 1)])]
set_option maxRecDepth 20000 in
theorem kX0_isFull : am_all cX0_isFull vwCl wsX0_isFull RX0 flX0 nwX0 false [0] bX0_isFull = true := by decide +kernel
def bX0_add : List (Nat × List (Instr × Nat)) := [(0, [(.aload_n 0, 1), (.getfield 9, 3), (.aload_n 0, 1), (.getfield 18, 3), (.iload_n 1, 1), (.iastore, 1), (.aload_n 0, 1), (.getfield 15, 3), (.aload_n 0, 1), (.getfield 18, 3), (.iload_n 2, 1), (.iastore, 1), (.aload_n 0, 1), (.dup, 1), (.getfield 18, 3), (.iconst 1, 1), (.iadd, 1), (.putfield 18, 3), (.return_, 1)])]
set_option maxRecDepth 20000 in
theorem kX0_add : am_all cX0_add vwCl wsX0_add RX0 flX0 nwX0 false [0] bX0_add = true := by decide +kernel
def bX0_remove : List (Nat × List (Instr × Nat)) := [(0, [(.iconst 0, 1), (.istore_n 3, 1)]),
  (2, [(.iload_n 3, 1), (.aload_n 0, 1), (.getfield 18, 3), (.if_icmp .ge 36, 3), (.aload_n 0, 1), (.getfield 9, 3), (.iload_n 3, 1), (.iaload, 1), (.iload_n 1, 1), (.if_icmp .ne 20, 3), (.aload_n 0, 1), (.getfield 15, 3), (.iload_n 3, 1), (.iaload, 1), (.iload_n 2, 1), (.if_icmp .ne 10, 3), (.aload_n 0, 1), (.iload_n 3, 1), (.invokevirtual 22, 3), (.iconst 1, 1), (.ireturn, 1)]),
  (37, [(.iinc 3 1, 3), (.goto (-38), 3)]),
  (43, [(.iconst 0, 1), (.ireturn, 1)])]
set_option maxRecDepth 20000 in
theorem kX0_remove : am_all cX0_remove vwCl wsX0_remove RX0 flX0 nwX0 false [0] bX0_remove = true := by decide +kernel
def bX0_removeAll : List (Nat × List (Instr × Nat)) := [(0, [(.aload_n 0, 1), (.getfield 18, 3), (.iconst 1, 1), (.isub, 1), (.istore_n 3, 1)]),
  (7, [(.iload_n 3, 1), (.ifCond .lt 34, 3), (.aload_n 0, 1), (.getfield 9, 3), (.iload_n 3, 1), (.iaload, 1), (.iload_n 1, 1), (.if_icmp .lt 18, 3), (.aload_n 0, 1), (.getfield 9, 3), (.iload_n 3, 1), (.iaload, 1), (.iload_n 2, 1), (.if_icmp .ge 8, 3), (.aload_n 0, 1), (.iload_n 3, 1), (.invokevirtual 22, 3)]),
  (36, [(.iinc 3 (-1), 3), (.goto (-32), 3)]),
  (42, [(.return_, 1)])]
set_option maxRecDepth 20000 in
theorem kX0_removeAll : am_all cX0_removeAll vwCl wsX0_removeAll RX0 flX0 nwX0 false [0] bX0_removeAll = true := by decide +kernel
def bX0_keptOf : List (Nat × List (Instr × Nat)) := [(0, [(.iconst 0, 1), (.istore_n 2, 1), (.iconst 0, 1), (.istore_n 3, 1)]),
  (4, [(.iload_n 3, 1), (.aload_n 0, 1), (.getfield 18, 3), (.if_icmp .ge 28, 3), (.aload_n 0, 1), (.getfield 9, 3), (.iload_n 3, 1), (.iaload, 1), (.iload_n 1, 1), (.if_icmp .ne 12, 3), (.iload_n 2, 1), (.aload_n 0, 1), (.getfield 15, 3), (.iload_n 3, 1), (.iaload, 1), (.ior, 1), (.istore_n 2, 1)]),
  (31, [(.iinc 3 1, 3), (.goto (-30), 3)]),
  (37, [(.iload_n 2, 1), (.ireturn, 1)])]
set_option maxRecDepth 20000 in
theorem kX0_keptOf : am_all cX0_keptOf vwCl wsX0_keptOf RX0 flX0 nwX0 false [0] bX0_keptOf = true := by decide +kernel
def bX0_removeAt : List (Nat × List (Instr × Nat)) := [(0, [(.aload_n 0, 1), (.dup, 1), (.getfield 18, 3), (.iconst 1, 1), (.isub, 1), (.putfield 18, 3), (.aload_n 0, 1), (.getfield 9, 3), (.iload_n 1, 1), (.aload_n 0, 1), (.getfield 9, 3), (.aload_n 0, 1), (.getfield 18, 3), (.iaload, 1), (.iastore, 1), (.aload_n 0, 1), (.getfield 15, 3), (.iload_n 1, 1), (.aload_n 0, 1), (.getfield 15, 3), (.aload_n 0, 1), (.getfield 18, 3), (.iaload, 1), (.iastore, 1), (.return_, 1)])]
set_option maxRecDepth 20000 in
theorem kX0_removeAt : am_all cX0_removeAt vwCl wsX0_removeAt RX0 flX0 nwX0 false [0] bX0_removeAt = true := by decide +kernel
