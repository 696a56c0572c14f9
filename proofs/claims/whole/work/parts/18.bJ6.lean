/-! blocks of java/lang/Integer, by program out of javap's listing -/
def flJ6 : Nat → Nat × Nat := fun x => match x with
  | _ => (0, 0)
def nwJ6 : Nat → Nat := fun x => match x with
  | _ => 0
def bJ6_bitCount_0f7a4 : List (Nat × List (Instr × Nat)) := [(0, [(.iload_n 0, 1), (.iload_n 0, 1), (.iconst 1, 1), (.iushr, 1), (.ldc_w 265, 3), (.iand, 1), (.isub, 1), (.istore_n 0, 1), (.iload_n 0, 1), (.ldc_w 266, 3), (.iand, 1), (.iload_n 0, 1), (.iconst 2, 1), (.iushr, 1), (.ldc_w 266, 3), (.iand, 1), (.iadd, 1), (.istore_n 0, 1), (.iload_n 0, 1), (.iload_n 0, 1), (.iconst 4, 1), (.iushr, 1), (.iadd, 1), (.ldc_w 267, 3), (.iand, 1), (.istore_n 0, 1), (.iload_n 0, 1), (.iload_n 0, 1), (.bipush 8, 2), (.iushr, 1), (.iadd, 1), (.istore_n 0, 1), (.iload_n 0, 1), (.iload_n 0, 1), (.bipush 16, 2), (.iushr, 1), (.iadd, 1), (.istore_n 0, 1), (.iload_n 0, 1), (.bipush 63, 2), (.iand, 1), (.ireturn, 1)])]
set_option maxRecDepth 20000 in
theorem kJ6_bitCount_0f7a4 : am_all cJ6_bitCount_0f7a4 vwCl wsJ6_bitCount_0f7a4 RJ6 flJ6 nwJ6 false [] bJ6_bitCount_0f7a4 = true := by decide +kernel
