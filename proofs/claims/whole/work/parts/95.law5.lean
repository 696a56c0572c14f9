/-! ===== the law: its blocks and its calls ===== -/
def bL0 : List (Nat × List (Instr × Nat)) := [(33, [(.iload 4, 2), (.aload_n 0, 1), (.arraylength, 1), (.iconst 5, 1), (.isub, 1), (.if_icmp .gt 1125, 3), (.aload_n 0, 1), (.iload 4, 2), (.iaload, 1), (.bipush 31, 2), (.iand, 1), (.tableswitch 1109 0 22 #[107, 144, 193, 242, 291, 352, 413, 474, 523, 572, 609, 634, 659, 708, 745, 806, 867, 892, 917, 954, 991, 1004, 1041], 107)]), (156, [(.aload_n 1, 1), (.aload_n 0, 1), (.iload 4, 2), (.iconst 1, 1), (.iadd, 1), (.iaload, 1), (.aload_n 0, 1), (.iload 4, 2), (.iconst 2, 1), (.iadd, 1), (.iaload, 1), (.invokevirtual 27, 3), (.aload_n 2, 1), (.aload_n 0, 1), (.iload 4, 2), (.iconst 1, 1), (.iadd, 1), (.iaload, 1), (.aload_n 0, 1), (.iload 4, 2), (.iconst 2, 1), (.iadd, 1), (.iaload, 1), (.invokevirtual 30, 3), (.if_icmp .eq 970, 3), (.iconst 0, 1), (.ireturn, 1)]), (193, [(.aload_n 1, 1), (.aload_n 0, 1), (.iload 4, 2), (.iconst 1, 1), (.iadd, 1), (.iaload, 1), (.aload_n 0, 1), (.iload 4, 2), (.iconst 2, 1), (.iadd, 1), (.iaload, 1), (.aload_n 0, 1), (.iload 4, 2), (.iconst 3, 1), (.iadd, 1), (.iaload, 1), (.invokevirtual 31, 3), (.aload_n 2, 1), (.aload_n 0, 1), (.iload 4, 2), (.iconst 1, 1), (.iadd, 1), (.iaload, 1), (.aload_n 0, 1), (.iload 4, 2), (.iconst 2, 1), (.iadd, 1), (.iaload, 1), (.aload_n 0, 1), (.iload 4, 2), (.iconst 3, 1), (.iadd, 1), (.iaload, 1), (.invokevirtual 35, 3), (.if_icmp .eq 921, 3), (.iconst 0, 1), (.ireturn, 1)]), (242, [(.aload_n 1, 1), (.aload_n 0, 1), (.iload 4, 2), (.iconst 1, 1), (.iadd, 1), (.iaload, 1), (.aload_n 0, 1), (.iload 4, 2), (.iconst 2, 1), (.iadd, 1), (.iaload, 1), (.aload_n 0, 1), (.iload 4, 2), (.iconst 3, 1), (.iadd, 1), (.iaload, 1), (.invokevirtual 36, 3), (.aload_n 2, 1), (.aload_n 0, 1), (.iload 4, 2), (.iconst 1, 1), (.iadd, 1), (.iaload, 1), (.aload_n 0, 1), (.iload 4, 2), (.iconst 2, 1), (.iadd, 1), (.iaload, 1), (.aload_n 0, 1), (.iload 4, 2), (.iconst 3, 1), (.iadd, 1), (.iaload, 1), (.invokevirtual 39, 3), (.if_icmp .eq 872, 3), (.iconst 0, 1), (.ireturn, 1)]), (291, [(.aload_n 1, 1), (.aload_n 0, 1), (.iload 4, 2), (.iconst 1, 1), (.iadd, 1), (.iaload, 1), (.aload_n 0, 1), (.iload 4, 2), (.iconst 2, 1), (.iadd, 1), (.iaload, 1), (.aload_n 0, 1), (.iload 4, 2), (.iconst 3, 1), (.iadd, 1), (.iaload, 1), (.invokevirtual 40, 3), (.aload_n 2, 1), (.aload_n 0, 1), (.iload 4, 2), (.iconst 1, 1), (.iadd, 1), (.iaload, 1), (.aload_n 0, 1), (.iload 4, 2), (.iconst 2, 1), (.iadd, 1), (.iaload, 1), (.aload_n 0, 1), (.iload 4, 2), (.iconst 3, 1), (.iadd, 1), (.iaload, 1), (.invokevirtual 44, 3), (.if_icmp .eq 823, 3), (.iconst 0, 1), (.ireturn, 1)])]
theorem kL0 : am_oks code bL0 = true := by decide +kernel
theorem lL0 : am_lens bL0 = true := by decide +kernel
def bL1 : List (Nat × List (Instr × Nat)) := [(340, [(.aload_n 1, 1), (.aload_n 0, 1), (.iload 4, 2), (.iconst 1, 1), (.iadd, 1), (.iaload, 1), (.aload_n 0, 1), (.iload 4, 2), (.iconst 2, 1), (.iadd, 1), (.iaload, 1), (.aload_n 0, 1), (.iload 4, 2), (.iconst 3, 1), (.iadd, 1), (.iaload, 1), (.aload_n 0, 1), (.iload 4, 2), (.iconst 4, 1), (.iadd, 1), (.iaload, 1), (.invokevirtual 45, 3), (.aload_n 2, 1), (.aload_n 0, 1), (.iload 4, 2), (.iconst 1, 1), (.iadd, 1), (.iaload, 1), (.aload_n 0, 1), (.iload 4, 2), (.iconst 2, 1), (.iadd, 1), (.iaload, 1), (.aload_n 0, 1), (.iload 4, 2), (.iconst 3, 1), (.iadd, 1), (.iaload, 1), (.aload_n 0, 1), (.iload 4, 2), (.iconst 4, 1), (.iadd, 1), (.iaload, 1), (.invokevirtual 49, 3), (.if_icmp .eq 762, 3), (.iconst 0, 1), (.ireturn, 1)]), (401, [(.aload_n 1, 1), (.aload_n 0, 1), (.iload 4, 2), (.iconst 1, 1), (.iadd, 1), (.iaload, 1), (.aload_n 0, 1), (.iload 4, 2), (.iconst 2, 1), (.iadd, 1), (.iaload, 1), (.aload_n 0, 1), (.iload 4, 2), (.iconst 3, 1), (.iadd, 1), (.iaload, 1), (.aload_n 0, 1), (.iload 4, 2), (.iconst 4, 1), (.iadd, 1), (.iaload, 1), (.invokevirtual 50, 3), (.aload_n 2, 1), (.aload_n 0, 1), (.iload 4, 2), (.iconst 1, 1), (.iadd, 1), (.iaload, 1), (.aload_n 0, 1), (.iload 4, 2), (.iconst 2, 1), (.iadd, 1), (.iaload, 1), (.aload_n 0, 1), (.iload 4, 2), (.iconst 3, 1), (.iadd, 1), (.iaload, 1), (.aload_n 0, 1), (.iload 4, 2), (.iconst 4, 1), (.iadd, 1), (.iaload, 1), (.invokevirtual 53, 3), (.if_icmp .eq 701, 3), (.iconst 0, 1), (.ireturn, 1)]), (462, [(.aload_n 1, 1), (.aload_n 0, 1), (.iload 4, 2), (.iconst 1, 1), (.iadd, 1), (.iaload, 1), (.aload_n 0, 1), (.iload 4, 2), (.iconst 2, 1), (.iadd, 1), (.iaload, 1), (.aload_n 0, 1), (.iload 4, 2), (.iconst 3, 1), (.iadd, 1), (.iaload, 1), (.aload_n 0, 1), (.iload 4, 2), (.iconst 4, 1), (.iadd, 1), (.iaload, 1), (.invokevirtual 54, 3), (.aload_n 2, 1), (.aload_n 0, 1), (.iload 4, 2), (.iconst 1, 1), (.iadd, 1), (.iaload, 1), (.aload_n 0, 1), (.iload 4, 2), (.iconst 2, 1), (.iadd, 1), (.iaload, 1), (.aload_n 0, 1), (.iload 4, 2), (.iconst 3, 1), (.iadd, 1), (.iaload, 1), (.aload_n 0, 1), (.iload 4, 2), (.iconst 4, 1), (.iadd, 1), (.iaload, 1), (.invokevirtual 57, 3), (.if_icmp .eq 640, 3), (.iconst 0, 1), (.ireturn, 1)]), (523, [(.aload_n 1, 1), (.aload_n 0, 1), (.iload 4, 2), (.iconst 1, 1), (.iadd, 1), (.iaload, 1), (.aload_n 0, 1), (.iload 4, 2), (.iconst 2, 1), (.iadd, 1), (.iaload, 1), (.aload_n 0, 1), (.iload 4, 2), (.iconst 3, 1), (.iadd, 1), (.iaload, 1), (.invokevirtual 58, 3), (.aload_n 2, 1), (.aload_n 0, 1), (.iload 4, 2), (.iconst 1, 1), (.iadd, 1), (.iaload, 1), (.aload_n 0, 1), (.iload 4, 2), (.iconst 2, 1), (.iadd, 1), (.iaload, 1), (.aload_n 0, 1), (.iload 4, 2), (.iconst 3, 1), (.iadd, 1), (.iaload, 1), (.invokevirtual 61, 3), (.if_icmp .eq 591, 3), (.iconst 0, 1), (.ireturn, 1)]), (572, [(.aload_n 1, 1), (.aload_n 0, 1), (.iload 4, 2), (.iconst 1, 1), (.iadd, 1), (.iaload, 1), (.aload_n 0, 1), (.iload 4, 2), (.iconst 2, 1), (.iadd, 1), (.iaload, 1), (.aload_n 0, 1), (.iload 4, 2), (.iconst 3, 1), (.iadd, 1), (.iaload, 1), (.invokevirtual 62, 3), (.aload_n 2, 1), (.aload_n 0, 1), (.iload 4, 2), (.iconst 1, 1), (.iadd, 1), (.iaload, 1), (.aload_n 0, 1), (.iload 4, 2), (.iconst 2, 1), (.iadd, 1), (.iaload, 1), (.aload_n 0, 1), (.iload 4, 2), (.iconst 3, 1), (.iadd, 1), (.iaload, 1), (.invokevirtual 65, 3), (.if_icmp .eq 542, 3), (.iconst 0, 1), (.ireturn, 1)])]
theorem kL1 : am_oks code bL1 = true := by decide +kernel
theorem lL1 : am_lens bL1 = true := by decide +kernel
def bL2 : List (Nat × List (Instr × Nat)) := [(621, [(.aload_n 1, 1), (.aload_n 0, 1), (.iload 4, 2), (.iconst 1, 1), (.iadd, 1), (.iaload, 1), (.aload_n 0, 1), (.iload 4, 2), (.iconst 2, 1), (.iadd, 1), (.iaload, 1), (.invokevirtual 66, 3), (.aload_n 2, 1), (.aload_n 0, 1), (.iload 4, 2), (.iconst 1, 1), (.iadd, 1), (.iaload, 1), (.aload_n 0, 1), (.iload 4, 2), (.iconst 2, 1), (.iadd, 1), (.iaload, 1), (.invokevirtual 69, 3), (.if_icmp .eq 505, 3), (.iconst 0, 1), (.ireturn, 1)]), (658, [(.aload_n 1, 1), (.aload_n 0, 1), (.iload 4, 2), (.iconst 1, 1), (.iadd, 1), (.iaload, 1), (.invokevirtual 70, 3), (.aload_n 2, 1), (.aload_n 0, 1), (.iload 4, 2), (.iconst 1, 1), (.iadd, 1), (.iaload, 1), (.invokevirtual 74, 3), (.if_icmp .eq 480, 3), (.iconst 0, 1), (.ireturn, 1)]), (683, [(.aload_n 1, 1), (.aload_n 0, 1), (.iload 4, 2), (.iconst 1, 1), (.iadd, 1), (.iaload, 1), (.invokevirtual 75, 3), (.aload_n 2, 1), (.aload_n 0, 1), (.iload 4, 2), (.iconst 1, 1), (.iadd, 1), (.iaload, 1), (.invokevirtual 78, 3), (.if_icmp .eq 455, 3), (.iconst 0, 1), (.ireturn, 1)]), (708, [(.aload_n 1, 1), (.aload_n 0, 1), (.iload 4, 2), (.iconst 1, 1), (.iadd, 1), (.iaload, 1), (.aload_n 0, 1), (.iload 4, 2), (.iconst 2, 1), (.iadd, 1), (.iaload, 1), (.aload_n 0, 1), (.iload 4, 2), (.iconst 3, 1), (.iadd, 1), (.iaload, 1), (.invokevirtual 79, 3), (.aload_n 2, 1), (.aload_n 0, 1), (.iload 4, 2), (.iconst 1, 1), (.iadd, 1), (.iaload, 1), (.aload_n 0, 1), (.iload 4, 2), (.iconst 2, 1), (.iadd, 1), (.iaload, 1), (.aload_n 0, 1), (.iload 4, 2), (.iconst 3, 1), (.iadd, 1), (.iaload, 1), (.invokevirtual 82, 3), (.if_icmp .eq 406, 3), (.iconst 0, 1), (.ireturn, 1)]), (757, [(.aload_n 1, 1), (.aload_n 0, 1), (.iload 4, 2), (.iconst 1, 1), (.iadd, 1), (.iaload, 1), (.aload_n 0, 1), (.iload 4, 2), (.iconst 2, 1), (.iadd, 1), (.iaload, 1), (.invokevirtual 83, 3), (.aload_n 2, 1), (.aload_n 0, 1), (.iload 4, 2), (.iconst 1, 1), (.iadd, 1), (.iaload, 1), (.aload_n 0, 1), (.iload 4, 2), (.iconst 2, 1), (.iadd, 1), (.iaload, 1), (.invokevirtual 86, 3), (.if_icmp .eq 369, 3), (.iconst 0, 1), (.ireturn, 1)])]
theorem kL2 : am_oks code bL2 = true := by decide +kernel
theorem lL2 : am_lens bL2 = true := by decide +kernel
def bL3 : List (Nat × List (Instr × Nat)) := [(794, [(.aload_n 1, 1), (.aload_n 0, 1), (.iload 4, 2), (.iconst 1, 1), (.iadd, 1), (.iaload, 1), (.aload_n 0, 1), (.iload 4, 2), (.iconst 2, 1), (.iadd, 1), (.iaload, 1), (.aload_n 0, 1), (.iload 4, 2), (.iconst 3, 1), (.iadd, 1), (.iaload, 1), (.aload_n 0, 1), (.iload 4, 2), (.iconst 4, 1), (.iadd, 1), (.iaload, 1), (.invokevirtual 87, 3), (.aload_n 2, 1), (.aload_n 0, 1), (.iload 4, 2), (.iconst 1, 1), (.iadd, 1), (.iaload, 1), (.aload_n 0, 1), (.iload 4, 2), (.iconst 2, 1), (.iadd, 1), (.iaload, 1), (.aload_n 0, 1), (.iload 4, 2), (.iconst 3, 1), (.iadd, 1), (.iaload, 1), (.aload_n 0, 1), (.iload 4, 2), (.iconst 4, 1), (.iadd, 1), (.iaload, 1), (.invokevirtual 90, 3), (.if_icmp .eq 308, 3), (.iconst 0, 1), (.ireturn, 1)]), (855, [(.aload_n 1, 1), (.aload_n 0, 1), (.iload 4, 2), (.iconst 1, 1), (.iadd, 1), (.iaload, 1), (.aload_n 0, 1), (.iload 4, 2), (.iconst 2, 1), (.iadd, 1), (.iaload, 1), (.aload_n 0, 1), (.iload 4, 2), (.iconst 3, 1), (.iadd, 1), (.iaload, 1), (.aload_n 0, 1), (.iload 4, 2), (.iconst 4, 1), (.iadd, 1), (.iaload, 1), (.invokevirtual 91, 3), (.aload_n 2, 1), (.aload_n 0, 1), (.iload 4, 2), (.iconst 1, 1), (.iadd, 1), (.iaload, 1), (.aload_n 0, 1), (.iload 4, 2), (.iconst 2, 1), (.iadd, 1), (.iaload, 1), (.aload_n 0, 1), (.iload 4, 2), (.iconst 3, 1), (.iadd, 1), (.iaload, 1), (.aload_n 0, 1), (.iload 4, 2), (.iconst 4, 1), (.iadd, 1), (.iaload, 1), (.invokevirtual 95, 3), (.if_icmp .eq 247, 3), (.iconst 0, 1), (.ireturn, 1)]), (916, [(.aload_n 1, 1), (.aload_n 0, 1), (.iload 4, 2), (.iconst 1, 1), (.iadd, 1), (.iaload, 1), (.invokevirtual 96, 3), (.aload_n 2, 1), (.aload_n 0, 1), (.iload 4, 2), (.iconst 1, 1), (.iadd, 1), (.iaload, 1), (.invokevirtual 100, 3), (.if_icmp .eq 222, 3), (.iconst 0, 1), (.ireturn, 1)]), (941, [(.aload_n 1, 1), (.aload_n 0, 1), (.iload 4, 2), (.iconst 1, 1), (.iadd, 1), (.iaload, 1), (.invokevirtual 101, 3), (.aload_n 2, 1), (.aload_n 0, 1), (.iload 4, 2), (.iconst 1, 1), (.iadd, 1), (.iaload, 1), (.invokevirtual 104, 3), (.if_icmp .eq 197, 3), (.iconst 0, 1), (.ireturn, 1)]), (966, [(.aload_n 1, 1), (.aload_n 0, 1), (.iload 4, 2), (.iconst 1, 1), (.iadd, 1), (.iaload, 1), (.aload_n 0, 1), (.iload 4, 2), (.iconst 2, 1), (.iadd, 1), (.iaload, 1), (.invokevirtual 105, 3), (.aload_n 2, 1), (.aload_n 0, 1), (.iload 4, 2), (.iconst 1, 1), (.iadd, 1), (.iaload, 1), (.aload_n 0, 1), (.iload 4, 2), (.iconst 2, 1), (.iadd, 1), (.iaload, 1), (.invokevirtual 108, 3), (.if_icmp .eq 160, 3), (.iconst 0, 1), (.ireturn, 1)])]
theorem kL3 : am_oks code bL3 = true := by decide +kernel
theorem lL3 : am_lens bL3 = true := by decide +kernel
def bL4 : List (Nat × List (Instr × Nat)) := [(1003, [(.aload_n 1, 1), (.aload_n 0, 1), (.iload 4, 2), (.iconst 1, 1), (.iadd, 1), (.iaload, 1), (.aload_n 0, 1), (.iload 4, 2), (.iconst 2, 1), (.iadd, 1), (.iaload, 1), (.invokevirtual 109, 3), (.aload_n 2, 1), (.aload_n 0, 1), (.iload 4, 2), (.iconst 1, 1), (.iadd, 1), (.iaload, 1), (.aload_n 0, 1), (.iload 4, 2), (.iconst 2, 1), (.iadd, 1), (.iaload, 1), (.invokevirtual 112, 3), (.if_icmp .eq 123, 3), (.iconst 0, 1), (.ireturn, 1)]), (1040, [(.aload_n 1, 1), (.invokevirtual 113, 3), (.aload_n 2, 1), (.invokevirtual 117, 3), (.if_icmp .eq 110, 3), (.iconst 0, 1), (.ireturn, 1)]), (1053, [(.aload_n 1, 1), (.aload_n 0, 1), (.iload 4, 2), (.iconst 1, 1), (.iadd, 1), (.iaload, 1), (.aload_n 0, 1), (.iload 4, 2), (.iconst 2, 1), (.iadd, 1), (.iaload, 1), (.invokevirtual 118, 3), (.aload_n 2, 1), (.aload_n 0, 1), (.iload 4, 2), (.iconst 1, 1), (.iadd, 1), (.iaload, 1), (.aload_n 0, 1), (.iload 4, 2), (.iconst 2, 1), (.iadd, 1), (.iaload, 1), (.invokevirtual 121, 3), (.if_icmp .eq 73, 3), (.iconst 0, 1), (.ireturn, 1)]), (1090, [(.aload_n 1, 1), (.aload_n 0, 1), (.iload 4, 2), (.iconst 1, 1), (.iadd, 1), (.iaload, 1), (.aload_n 0, 1), (.iload 4, 2), (.iconst 2, 1), (.iadd, 1), (.iaload, 1), (.aload_n 3, 1), (.invokestatic 122, 3), (.istore 5, 2), (.aload_n 2, 1), (.aload_n 0, 1), (.iload 4, 2), (.iconst 1, 1), (.iadd, 1), (.iaload, 1), (.aload_n 0, 1), (.iload 4, 2), (.iconst 2, 1), (.iadd, 1), (.iaload, 1), (.invokevirtual 125, 3), (.istore 6, 2), (.aload_n 2, 1), (.invokevirtual 126, 3), (.iload 5, 2), (.if_icmp .eq 5, 3), (.iconst 0, 1), (.ireturn, 1)]), (1155, [(.goto 3, 3)])]
theorem kL4 : am_oks code bL4 = true := by decide +kernel
theorem lL4 : am_lens bL4 = true := by decide +kernel
def bL5 : List (Nat × List (Instr × Nat)) := [(1158, [(.iinc 4 5, 3), (.goto (-1128), 3)]), (1164, [(.iconst 1, 1), (.ireturn, 1)])]
theorem kL5 : am_oks code bL5 = true := by decide +kernel
theorem lL5 : am_lens bL5 = true := by decide +kernel
def bL : List (Nat × List (Instr × Nat)) := bL0 ++ bL1 ++ bL2 ++ bL3 ++ bL4 ++ bL5
theorem am_oks_app {cc : ByteArray} {x y : List (Nat × List (Instr × Nat))} (h1 : am_oks cc x = true) (h2 : am_oks cc y = true) : am_oks cc (x ++ y) = true := by
  unfold am_oks at *
  rw [List.all_append, h1, h2]
  rfl
theorem am_lens_app {x y : List (Nat × List (Instr × Nat))} (h1 : am_lens x = true) (h2 : am_lens y = true) : am_lens (x ++ y) = true := by
  unfold am_lens at *
  rw [List.all_append, h1, h2]
  rfl
theorem kL : am_oks code bL = true := (am_oks_app (am_oks_app (am_oks_app (am_oks_app (am_oks_app kL0 kL1) kL2) kL3) kL4) kL5)
theorem lL : am_lens bL = true := (am_lens_app (am_lens_app (am_lens_app (am_lens_app (am_lens_app lL0 lL1) lL2) lL3) lL4) lL5)
/-- ride: the law's own helper -/
def lw_r (L : Nat) (st : List Value) (J : am_D) (a : am_A) (k : List Value → am_D → am_A → Prop) : Prop := ∃ (x w : Int32) (r : List Value), st = .ref 2 :: .int w :: .int x :: .ref 0 :: r ∧ r.length ≤ 8 ∧ a.2.1 + 1 ≤ 601024 ∧ a.2.2 + 6 ≤ 7293000 ∧ dW L (jD J) ∧ ((x < 0 ∨ jD J 0 4 ≤ x ∨ w < 0 ∨ 5 < w) → k (.int 1 :: r) (jJ (jD J) (jM J) (jO J)) (4, a.2.1 + 1, a.2.2 + 6)) ∧ (¬ (x < 0 ∨ jD J 0 4 ≤ x ∨ w < 0 ∨ 5 < w) → k (.int 0 :: r) (jJ (jD J) (jM J) (dRideV (jD J) x.toNatClampNeg w.toNatClampNeg)) (4, a.2.1 + 1, a.2.2 + 6))
def lwE (L Ls : Nat) (xs : Nat → Int32) : am_M := fun i st J a k => match i with
  | .iaload => ∃ (x : Int32) (r : List Value), st = .int x :: .ref 3 :: r ∧ vp_in x Ls ∧ k (.int (xs x.toNatClampNeg) :: r) J a
  | .arraylength => ∃ r : List Value, st = .ref 3 :: r ∧ k (.int (nI Ls) :: r) J a
  | .invokevirtual 27 => lw_d L 2 0 0 (sp_X3_coach L) st J a k
  | .invokevirtual 30 => lw_m 2 sp_X4_coach st J a k
  | .invokevirtual 31 => lw_d L 3 0 0 (sp_X3_flags L) st J a k
  | .invokevirtual 35 => lw_m 3 sp_X4_flags st J a k
  | .invokevirtual 36 => lw_d L 3 0 0 (sp_X3_quota L) st J a k
  | .invokevirtual 39 => lw_m 3 sp_X4_quota st J a k
  | .invokevirtual 40 => lw_d L 3 2 37 (sp_X3_book L) st J a k
  | .invokevirtual 44 => lw_m 3 sp_X4_book st J a k
  | .invokevirtual 45 => lw_d L 4 2 37 (sp_X3_agencyBook L) st J a k
  | .invokevirtual 49 => lw_m 4 sp_X4_agencyBook st J a k
  | .invokevirtual 50 => lw_d L 4 2 37 (sp_X3_bookSeat L) st J a k
  | .invokevirtual 53 => lw_m 4 sp_X4_bookSeat st J a k
  | .invokevirtual 54 => lw_d L 4 24 444 (sp_X3_bookGroup L) st J a k
  | .invokevirtual 57 => lw_m 4 sp_X4_bookGroup st J a k
  | .invokevirtual 58 => lw_d L 3 0 0 (sp_X3_offerChanges L) st J a k
  | .invokevirtual 61 => lw_m 3 sp_X4_offerChanges st J a k
  | .invokevirtual 62 => lw_d L 3 2 37 (sp_X3_bookChanges L) st J a k
  | .invokevirtual 65 => lw_m 3 sp_X4_bookChanges st J a k
  | .invokevirtual 66 => lw_d L 2 0 0 (sp_X3_wish L) st J a k
  | .invokevirtual 69 => lw_m 2 sp_X4_wish st J a k
  | .invokevirtual 70 => lw_d L 1 0 0 (sp_X3_print L) st J a k
  | .invokevirtual 74 => lw_m 1 sp_X4_print st J a k
  | .invokevirtual 75 => lw_d L 1 0 0 (sp_X3_cancel L) st J a k
  | .invokevirtual 78 => lw_m 1 sp_X4_cancel st J a k
  | .invokevirtual 79 => lw_d L 3 0 0 (sp_X3_shorten L) st J a k
  | .invokevirtual 82 => lw_m 3 sp_X4_shorten st J a k
  | .invokevirtual 83 => lw_d L 2 0 0 (sp_X3_seatOf L) st J a k
  | .invokevirtual 86 => lw_m 2 sp_X4_seatOf st J a k
  | .invokevirtual 87 => lw_d L 4 0 0 (sp_X3_block L) st J a k
  | .invokevirtual 90 => lw_m 4 sp_X4_block st J a k
  | .invokevirtual 91 => lw_d L 4 0 0 (sp_X3_unblock L) st J a k
  | .invokevirtual 95 => lw_m 4 sp_X4_unblock st J a k
  | .invokevirtual 96 => lw_d L 1 0 0 (sp_X3_removeCoach L) st J a k
  | .invokevirtual 100 => lw_m 1 sp_X4_removeCoach st J a k
  | .invokevirtual 101 => lw_d L 1 0 0 (sp_X3_standing L) st J a k
  | .invokevirtual 104 => lw_m 1 sp_X4_standing st J a k
  | .invokevirtual 105 => lw_d L 2 0 0 (sp_X3_load L) st J a k
  | .invokevirtual 108 => lw_m 2 sp_X4_load st J a k
  | .invokevirtual 109 => lw_d L 2 0 0 (sp_X3_free L) st J a k
  | .invokevirtual 112 => lw_m 2 sp_X4_free st J a k
  | .invokevirtual 113 => lw_d L 0 0 0 (sp_X3_moved L) st J a k
  | .invokevirtual 117 => lw_m 0 sp_X4_moved st J a k
  | .invokevirtual 118 => lw_d L 2 0 0 (sp_X3_manifest L) st J a k
  | .invokevirtual 121 => lw_m 2 sp_X4_manifest st J a k
  | .invokevirtual 125 => lw_m 2 sp_X4_ride st J a k
  | .invokevirtual 126 => lw_m 0 sp_X4_thrown st J a k
  | .invokestatic 122 => lw_r L st J a k
  | _ => False
theorem lwE_27 {L Ls : Nat} {xs : Nat → Int32} {st : List Value} {J : am_D} {a : am_A} {k : List Value → am_D → am_A → Prop} : lwE L Ls xs (.invokevirtual 27) st J a k = (lw_d L 2 0 0 (sp_X3_coach L) st J a k) := am_nr rfl
theorem lwE_30 {L Ls : Nat} {xs : Nat → Int32} {st : List Value} {J : am_D} {a : am_A} {k : List Value → am_D → am_A → Prop} : lwE L Ls xs (.invokevirtual 30) st J a k = (lw_m 2 sp_X4_coach st J a k) := am_nr rfl
theorem lwE_31 {L Ls : Nat} {xs : Nat → Int32} {st : List Value} {J : am_D} {a : am_A} {k : List Value → am_D → am_A → Prop} : lwE L Ls xs (.invokevirtual 31) st J a k = (lw_d L 3 0 0 (sp_X3_flags L) st J a k) := am_nr rfl
theorem lwE_35 {L Ls : Nat} {xs : Nat → Int32} {st : List Value} {J : am_D} {a : am_A} {k : List Value → am_D → am_A → Prop} : lwE L Ls xs (.invokevirtual 35) st J a k = (lw_m 3 sp_X4_flags st J a k) := am_nr rfl
theorem lwE_36 {L Ls : Nat} {xs : Nat → Int32} {st : List Value} {J : am_D} {a : am_A} {k : List Value → am_D → am_A → Prop} : lwE L Ls xs (.invokevirtual 36) st J a k = (lw_d L 3 0 0 (sp_X3_quota L) st J a k) := am_nr rfl
theorem lwE_39 {L Ls : Nat} {xs : Nat → Int32} {st : List Value} {J : am_D} {a : am_A} {k : List Value → am_D → am_A → Prop} : lwE L Ls xs (.invokevirtual 39) st J a k = (lw_m 3 sp_X4_quota st J a k) := am_nr rfl
theorem lwE_40 {L Ls : Nat} {xs : Nat → Int32} {st : List Value} {J : am_D} {a : am_A} {k : List Value → am_D → am_A → Prop} : lwE L Ls xs (.invokevirtual 40) st J a k = (lw_d L 3 2 37 (sp_X3_book L) st J a k) := am_nr rfl
theorem lwE_44 {L Ls : Nat} {xs : Nat → Int32} {st : List Value} {J : am_D} {a : am_A} {k : List Value → am_D → am_A → Prop} : lwE L Ls xs (.invokevirtual 44) st J a k = (lw_m 3 sp_X4_book st J a k) := am_nr rfl
theorem lwE_45 {L Ls : Nat} {xs : Nat → Int32} {st : List Value} {J : am_D} {a : am_A} {k : List Value → am_D → am_A → Prop} : lwE L Ls xs (.invokevirtual 45) st J a k = (lw_d L 4 2 37 (sp_X3_agencyBook L) st J a k) := am_nr rfl
theorem lwE_49 {L Ls : Nat} {xs : Nat → Int32} {st : List Value} {J : am_D} {a : am_A} {k : List Value → am_D → am_A → Prop} : lwE L Ls xs (.invokevirtual 49) st J a k = (lw_m 4 sp_X4_agencyBook st J a k) := am_nr rfl
theorem lwE_50 {L Ls : Nat} {xs : Nat → Int32} {st : List Value} {J : am_D} {a : am_A} {k : List Value → am_D → am_A → Prop} : lwE L Ls xs (.invokevirtual 50) st J a k = (lw_d L 4 2 37 (sp_X3_bookSeat L) st J a k) := am_nr rfl
theorem lwE_53 {L Ls : Nat} {xs : Nat → Int32} {st : List Value} {J : am_D} {a : am_A} {k : List Value → am_D → am_A → Prop} : lwE L Ls xs (.invokevirtual 53) st J a k = (lw_m 4 sp_X4_bookSeat st J a k) := am_nr rfl
theorem lwE_54 {L Ls : Nat} {xs : Nat → Int32} {st : List Value} {J : am_D} {a : am_A} {k : List Value → am_D → am_A → Prop} : lwE L Ls xs (.invokevirtual 54) st J a k = (lw_d L 4 24 444 (sp_X3_bookGroup L) st J a k) := am_nr rfl
theorem lwE_57 {L Ls : Nat} {xs : Nat → Int32} {st : List Value} {J : am_D} {a : am_A} {k : List Value → am_D → am_A → Prop} : lwE L Ls xs (.invokevirtual 57) st J a k = (lw_m 4 sp_X4_bookGroup st J a k) := am_nr rfl
theorem lwE_58 {L Ls : Nat} {xs : Nat → Int32} {st : List Value} {J : am_D} {a : am_A} {k : List Value → am_D → am_A → Prop} : lwE L Ls xs (.invokevirtual 58) st J a k = (lw_d L 3 0 0 (sp_X3_offerChanges L) st J a k) := am_nr rfl
theorem lwE_61 {L Ls : Nat} {xs : Nat → Int32} {st : List Value} {J : am_D} {a : am_A} {k : List Value → am_D → am_A → Prop} : lwE L Ls xs (.invokevirtual 61) st J a k = (lw_m 3 sp_X4_offerChanges st J a k) := am_nr rfl
theorem lwE_62 {L Ls : Nat} {xs : Nat → Int32} {st : List Value} {J : am_D} {a : am_A} {k : List Value → am_D → am_A → Prop} : lwE L Ls xs (.invokevirtual 62) st J a k = (lw_d L 3 2 37 (sp_X3_bookChanges L) st J a k) := am_nr rfl
theorem lwE_65 {L Ls : Nat} {xs : Nat → Int32} {st : List Value} {J : am_D} {a : am_A} {k : List Value → am_D → am_A → Prop} : lwE L Ls xs (.invokevirtual 65) st J a k = (lw_m 3 sp_X4_bookChanges st J a k) := am_nr rfl
theorem lwE_66 {L Ls : Nat} {xs : Nat → Int32} {st : List Value} {J : am_D} {a : am_A} {k : List Value → am_D → am_A → Prop} : lwE L Ls xs (.invokevirtual 66) st J a k = (lw_d L 2 0 0 (sp_X3_wish L) st J a k) := am_nr rfl
theorem lwE_69 {L Ls : Nat} {xs : Nat → Int32} {st : List Value} {J : am_D} {a : am_A} {k : List Value → am_D → am_A → Prop} : lwE L Ls xs (.invokevirtual 69) st J a k = (lw_m 2 sp_X4_wish st J a k) := am_nr rfl
theorem lwE_70 {L Ls : Nat} {xs : Nat → Int32} {st : List Value} {J : am_D} {a : am_A} {k : List Value → am_D → am_A → Prop} : lwE L Ls xs (.invokevirtual 70) st J a k = (lw_d L 1 0 0 (sp_X3_print L) st J a k) := am_nr rfl
theorem lwE_74 {L Ls : Nat} {xs : Nat → Int32} {st : List Value} {J : am_D} {a : am_A} {k : List Value → am_D → am_A → Prop} : lwE L Ls xs (.invokevirtual 74) st J a k = (lw_m 1 sp_X4_print st J a k) := am_nr rfl
theorem lwE_75 {L Ls : Nat} {xs : Nat → Int32} {st : List Value} {J : am_D} {a : am_A} {k : List Value → am_D → am_A → Prop} : lwE L Ls xs (.invokevirtual 75) st J a k = (lw_d L 1 0 0 (sp_X3_cancel L) st J a k) := am_nr rfl
theorem lwE_78 {L Ls : Nat} {xs : Nat → Int32} {st : List Value} {J : am_D} {a : am_A} {k : List Value → am_D → am_A → Prop} : lwE L Ls xs (.invokevirtual 78) st J a k = (lw_m 1 sp_X4_cancel st J a k) := am_nr rfl
theorem lwE_79 {L Ls : Nat} {xs : Nat → Int32} {st : List Value} {J : am_D} {a : am_A} {k : List Value → am_D → am_A → Prop} : lwE L Ls xs (.invokevirtual 79) st J a k = (lw_d L 3 0 0 (sp_X3_shorten L) st J a k) := am_nr rfl
theorem lwE_82 {L Ls : Nat} {xs : Nat → Int32} {st : List Value} {J : am_D} {a : am_A} {k : List Value → am_D → am_A → Prop} : lwE L Ls xs (.invokevirtual 82) st J a k = (lw_m 3 sp_X4_shorten st J a k) := am_nr rfl
theorem lwE_83 {L Ls : Nat} {xs : Nat → Int32} {st : List Value} {J : am_D} {a : am_A} {k : List Value → am_D → am_A → Prop} : lwE L Ls xs (.invokevirtual 83) st J a k = (lw_d L 2 0 0 (sp_X3_seatOf L) st J a k) := am_nr rfl
theorem lwE_86 {L Ls : Nat} {xs : Nat → Int32} {st : List Value} {J : am_D} {a : am_A} {k : List Value → am_D → am_A → Prop} : lwE L Ls xs (.invokevirtual 86) st J a k = (lw_m 2 sp_X4_seatOf st J a k) := am_nr rfl
theorem lwE_87 {L Ls : Nat} {xs : Nat → Int32} {st : List Value} {J : am_D} {a : am_A} {k : List Value → am_D → am_A → Prop} : lwE L Ls xs (.invokevirtual 87) st J a k = (lw_d L 4 0 0 (sp_X3_block L) st J a k) := am_nr rfl
theorem lwE_90 {L Ls : Nat} {xs : Nat → Int32} {st : List Value} {J : am_D} {a : am_A} {k : List Value → am_D → am_A → Prop} : lwE L Ls xs (.invokevirtual 90) st J a k = (lw_m 4 sp_X4_block st J a k) := am_nr rfl
theorem lwE_91 {L Ls : Nat} {xs : Nat → Int32} {st : List Value} {J : am_D} {a : am_A} {k : List Value → am_D → am_A → Prop} : lwE L Ls xs (.invokevirtual 91) st J a k = (lw_d L 4 0 0 (sp_X3_unblock L) st J a k) := am_nr rfl
theorem lwE_95 {L Ls : Nat} {xs : Nat → Int32} {st : List Value} {J : am_D} {a : am_A} {k : List Value → am_D → am_A → Prop} : lwE L Ls xs (.invokevirtual 95) st J a k = (lw_m 4 sp_X4_unblock st J a k) := am_nr rfl
theorem lwE_96 {L Ls : Nat} {xs : Nat → Int32} {st : List Value} {J : am_D} {a : am_A} {k : List Value → am_D → am_A → Prop} : lwE L Ls xs (.invokevirtual 96) st J a k = (lw_d L 1 0 0 (sp_X3_removeCoach L) st J a k) := am_nr rfl
theorem lwE_100 {L Ls : Nat} {xs : Nat → Int32} {st : List Value} {J : am_D} {a : am_A} {k : List Value → am_D → am_A → Prop} : lwE L Ls xs (.invokevirtual 100) st J a k = (lw_m 1 sp_X4_removeCoach st J a k) := am_nr rfl
theorem lwE_101 {L Ls : Nat} {xs : Nat → Int32} {st : List Value} {J : am_D} {a : am_A} {k : List Value → am_D → am_A → Prop} : lwE L Ls xs (.invokevirtual 101) st J a k = (lw_d L 1 0 0 (sp_X3_standing L) st J a k) := am_nr rfl
theorem lwE_104 {L Ls : Nat} {xs : Nat → Int32} {st : List Value} {J : am_D} {a : am_A} {k : List Value → am_D → am_A → Prop} : lwE L Ls xs (.invokevirtual 104) st J a k = (lw_m 1 sp_X4_standing st J a k) := am_nr rfl
theorem lwE_105 {L Ls : Nat} {xs : Nat → Int32} {st : List Value} {J : am_D} {a : am_A} {k : List Value → am_D → am_A → Prop} : lwE L Ls xs (.invokevirtual 105) st J a k = (lw_d L 2 0 0 (sp_X3_load L) st J a k) := am_nr rfl
theorem lwE_108 {L Ls : Nat} {xs : Nat → Int32} {st : List Value} {J : am_D} {a : am_A} {k : List Value → am_D → am_A → Prop} : lwE L Ls xs (.invokevirtual 108) st J a k = (lw_m 2 sp_X4_load st J a k) := am_nr rfl
theorem lwE_109 {L Ls : Nat} {xs : Nat → Int32} {st : List Value} {J : am_D} {a : am_A} {k : List Value → am_D → am_A → Prop} : lwE L Ls xs (.invokevirtual 109) st J a k = (lw_d L 2 0 0 (sp_X3_free L) st J a k) := am_nr rfl
theorem lwE_112 {L Ls : Nat} {xs : Nat → Int32} {st : List Value} {J : am_D} {a : am_A} {k : List Value → am_D → am_A → Prop} : lwE L Ls xs (.invokevirtual 112) st J a k = (lw_m 2 sp_X4_free st J a k) := am_nr rfl
theorem lwE_113 {L Ls : Nat} {xs : Nat → Int32} {st : List Value} {J : am_D} {a : am_A} {k : List Value → am_D → am_A → Prop} : lwE L Ls xs (.invokevirtual 113) st J a k = (lw_d L 0 0 0 (sp_X3_moved L) st J a k) := am_nr rfl
theorem lwE_117 {L Ls : Nat} {xs : Nat → Int32} {st : List Value} {J : am_D} {a : am_A} {k : List Value → am_D → am_A → Prop} : lwE L Ls xs (.invokevirtual 117) st J a k = (lw_m 0 sp_X4_moved st J a k) := am_nr rfl
theorem lwE_118 {L Ls : Nat} {xs : Nat → Int32} {st : List Value} {J : am_D} {a : am_A} {k : List Value → am_D → am_A → Prop} : lwE L Ls xs (.invokevirtual 118) st J a k = (lw_d L 2 0 0 (sp_X3_manifest L) st J a k) := am_nr rfl
theorem lwE_121 {L Ls : Nat} {xs : Nat → Int32} {st : List Value} {J : am_D} {a : am_A} {k : List Value → am_D → am_A → Prop} : lwE L Ls xs (.invokevirtual 121) st J a k = (lw_m 2 sp_X4_manifest st J a k) := am_nr rfl
theorem lwE_125 {L Ls : Nat} {xs : Nat → Int32} {st : List Value} {J : am_D} {a : am_A} {k : List Value → am_D → am_A → Prop} : lwE L Ls xs (.invokevirtual 125) st J a k = (lw_m 2 sp_X4_ride st J a k) := am_nr rfl
theorem lwE_126 {L Ls : Nat} {xs : Nat → Int32} {st : List Value} {J : am_D} {a : am_A} {k : List Value → am_D → am_A → Prop} : lwE L Ls xs (.invokevirtual 126) st J a k = (lw_m 0 sp_X4_thrown st J a k) := am_nr rfl
theorem lwE_122 {L Ls : Nat} {xs : Nat → Int32} {st : List Value} {J : am_D} {a : am_A} {k : List Value → am_D → am_A → Prop} : lwE L Ls xs (.invokestatic 122) st J a k = (lw_r L st J a k) := am_nr rfl
section LWC
variable {L Ls : Nat} {xs : Nat → Int32} {K : am_K} {Q : am_R} {pc n : Nat} {r : List (Instr × Nat)} {Lo st : List Value} {J : am_D} {a : am_A}
theorem lE_iaload {x : Int32} : am_w (lwE L Ls xs) K Q ((.iaload, n) :: r) pc Lo (.int x :: .ref 3 :: st) J a = (vp_in x Ls ∧ am_w (lwE L Ls xs) K Q r (pc + n) Lo (.int (xs x.toNatClampNeg) :: st) J a) := by
  refine propext ⟨?_, fun h => ⟨x, st, rfl, h⟩⟩
  rintro ⟨x', r', h1, h2⟩
  obtain ⟨h3, h4⟩ := List.cons.inj h1
  obtain ⟨-, h5⟩ := List.cons.inj h4
  cases h3
  cases h5
  exact h2
theorem lE_arraylength : am_w (lwE L Ls xs) K Q ((.arraylength, n) :: r) pc Lo (.ref 3 :: st) J a = am_w (lwE L Ls xs) K Q r (pc + n) Lo (.int (nI Ls) :: st) J a := by
  refine propext ⟨?_, fun h => ⟨st, rfl, h⟩⟩
  rintro ⟨r', h1, h2⟩
  obtain ⟨-, h5⟩ := List.cons.inj h1
  cases h5
  exact h2
theorem lE_iv {x : Nat} : am_w (lwE L Ls xs) K Q ((.invokevirtual x, n) :: r) pc Lo st J a = lwE L Ls xs (.invokevirtual x) st J a (fun st J a => am_w (lwE L Ls xs) K Q r (pc + n) Lo st J a) := am_nr rfl
theorem lE_is {x : Nat} : am_w (lwE L Ls xs) K Q ((.invokestatic x, n) :: r) pc Lo st J a = lwE L Ls xs (.invokestatic x) st J a (fun st J a => am_w (lwE L Ls xs) K Q r (pc + n) Lo st J a) := am_nr rfl
end LWC
