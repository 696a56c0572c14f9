/-! blocks of java/util/Arrays, by program out of javap's listing -/
def flJ7 : Nat → Nat × Nat := fun x => match x with
  | _ => (0, 0)
def nwJ7 : Nat → Nat := fun x => match x with
  | _ => 0
def bJ7_fill_53178 : List (Nat × List (Instr × Nat)) := [(0, [(.iconst 0, 1), (.istore_n 2, 1), (.aload_n 0, 1), (.arraylength, 1), (.istore_n 3, 1)]),
  (5, [(.iload_n 2, 1), (.iload_n 3, 1), (.if_icmp .ge 13, 3), (.aload_n 0, 1), (.iload_n 2, 1), (.iload_n 1, 1), (.iastore, 1), (.iinc 2 1, 3), (.goto (-12), 3)]),
  (20, [(.return_, 1)])]
set_option maxRecDepth 20000 in
theorem kJ7_fill_53178 : am_all cJ7_fill_53178 vwCl wsJ7_fill_53178 RJ7 flJ7 nwJ7 false [] bJ7_fill_53178 = true := by decide +kernel
