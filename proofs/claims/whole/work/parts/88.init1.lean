/-! ===== the constructors ===== -/
/-- the worlds while they are made: references that may be null -/
def sm_s0 : Nat → am_Sh := fun n => if n = 0 then .inl (4, [0, 0, 0, 2, 2, 2, 2, 2, 0, 2, 2, 2, 2, 2, 2, 2, 2, 0, 2, 2, 2, 0, 2]) else sm_sh n
def sd_s0 (L : Nat) : Nat → am_Sh := fun n => if n = 0 then .inl (3, [0, 2, 2, 2, 0, 2, 0, 2, 2, 2]) else if n = 1 then .inl (2, [0, 0, 2, 2, 2, 2, 2, 0, 2, 2]) else if n = 9 then .inl (0, [2, 2, 0]) else sd_sh L n
theorem sm_sc0 : am_SC vwCl sm_s0 := by
  intro n q hq
  unfold sm_s0 at hq
  by_cases h : n = 0
  · rw [if_pos h] at hq
    cases hq
    exact ⟨RX4, TX4, 23, tyX4, rfl, rfl, tyX4_ok, nmX4, am_ktl (by decide +kernel)⟩
  · rw [if_neg h] at hq
    exact sm_sc n q hq
theorem sd_sc0 (L : Nat) : am_SC vwCl (sd_s0 L) := by
  intro n q hq
  unfold sd_s0 at hq
  by_cases h : n = 0
  · rw [if_pos h] at hq
    cases hq
    exact ⟨RX3, TX3, 10, tyX3, rfl, rfl, tyX3_ok, nmX3, am_ktl (by decide +kernel)⟩
  · rw [if_neg h] at hq
    by_cases h1 : n = 1
    · rw [if_pos h1] at hq
      cases hq
      exact ⟨RX2, TX2, 10, tyX2, rfl, rfl, tyX2_ok, nmX2, am_ktl (by decide +kernel)⟩
    · rw [if_neg h1] at hq
      by_cases h9 : n = 9
      · rw [if_pos h9] at hq
        cases hq
        exact ⟨RX0, TX0, 3, tyX0, rfl, rfl, tyX0_ok, nmX0, am_ktl (by decide +kernel)⟩
      · rw [if_neg h9] at hq
        exact sd_sc L n q hq
/-- the reference's references -/
def mRefs (M : am_D) : Prop := M 0 3 = nI 1 ∧ M 0 4 = nI 2 ∧ M 0 5 = nI 3 ∧ M 0 6 = nI 4 ∧ M 0 7 = nI 5 ∧ M 0 9 = nI 6 ∧ M 0 10 = nI 7 ∧ M 0 11 = nI 8 ∧ M 0 12 = nI 9 ∧ M 0 13 = nI 10 ∧ M 0 14 = nI 11 ∧ M 0 15 = nI 12 ∧ M 0 16 = nI 13 ∧ M 0 18 = nI 14 ∧ M 0 19 = nI 15 ∧ M 0 20 = nI 16 ∧ M 0 22 = nI 17
/-- the number of stations that is taken -/
def stI (x : Int32) : Int32 := if x < 2 ∨ 30 < x then 10 else x
theorem tz_8 : (8 : Int32).toNatClampNeg = 8 := by decide
theorem tn_8 : (8 : Int32) < 0 ↔ False := by decide
theorem tz_9 : (9 : Int32).toNatClampNeg = 9 := by decide
theorem tn_9 : (9 : Int32) < 0 ↔ False := by decide
theorem tz_80 : (80 : Int32).toNatClampNeg = 80 := by decide
theorem tn_80 : (80 : Int32) < 0 ↔ False := by decide
theorem tz_116 : (116 : Int32).toNatClampNeg = 116 := by decide
theorem tn_116 : (116 : Int32) < 0 ↔ False := by decide
theorem tz_150 : (150 : Int32).toNatClampNeg = 150 := by decide
theorem tn_150 : (150 : Int32) < 0 ↔ False := by decide
theorem tz_512 : (512 : Int32).toNatClampNeg = 512 := by decide
theorem tn_512 : (512 : Int32) < 0 ↔ False := by decide
theorem tz_600 : (600 : Int32).toNatClampNeg = 600 := by decide
theorem tn_600 : (600 : Int32) < 0 ↔ False := by decide
theorem tz_4350 : (4350 : Int32).toNatClampNeg = 4350 := by decide
theorem tn_4350 : (4350 : Int32) < 0 ↔ False := by decide
theorem azX4_1 {c : Nat → Prop} : am_ar (sm_s0 1) 0 c = c 9 := by
  show (0 = 0 ∧ c 9) = _
  simp
theorem azX4_2 {c : Nat → Prop} : am_ar (sm_s0 2) 0 c = c 8 := by
  show (0 = 0 ∧ c 8) = _
  simp
theorem azX4_3 {c : Nat → Prop} : am_ar (sm_s0 3) 1 c = c 8 := by
  show (1 = 1 ∧ c 8) = _
  simp
theorem azX4_4 {c : Nat → Prop} : am_ar (sm_s0 4) 0 c = c 80 := by
  show (0 = 0 ∧ c 80) = _
  simp
theorem azX4_5 {c : Nat → Prop} : am_ar (sm_s0 5) 0 c = c 116 := by
  show (0 = 0 ∧ c 116) = _
  simp
theorem azX4_6 {c : Nat → Prop} : am_ar (sm_s0 6) 0 c = c 150 := by
  show (0 = 0 ∧ c 150) = _
  simp
theorem azX4_7 {c : Nat → Prop} : am_ar (sm_s0 7) 0 c = c 150 := by
  show (0 = 0 ∧ c 150) = _
  simp
theorem azX4_8 {c : Nat → Prop} : am_ar (sm_s0 8) 0 c = c 150 := by
  show (0 = 0 ∧ c 150) = _
  simp
theorem azX4_9 {c : Nat → Prop} : am_ar (sm_s0 9) 0 c = c 150 := by
  show (0 = 0 ∧ c 150) = _
  simp
theorem azX4_10 {c : Nat → Prop} : am_ar (sm_s0 10) 0 c = c 150 := by
  show (0 = 0 ∧ c 150) = _
  simp
theorem azX4_11 {c : Nat → Prop} : am_ar (sm_s0 11) 1 c = c 150 := by
  show (1 = 1 ∧ c 150) = _
  simp
theorem azX4_12 {c : Nat → Prop} : am_ar (sm_s0 12) 0 c = c 4350 := by
  show (0 = 0 ∧ c 4350) = _
  simp
theorem azX4_13 {c : Nat → Prop} : am_ar (sm_s0 13) 0 c = c 4350 := by
  show (0 = 0 ∧ c 4350) = _
  simp
theorem azX4_14 {c : Nat → Prop} : am_ar (sm_s0 14) 0 c = c 600 := by
  show (0 = 0 ∧ c 600) = _
  simp
theorem azX4_15 {c : Nat → Prop} : am_ar (sm_s0 15) 0 c = c 600 := by
  show (0 = 0 ∧ c 600) = _
  simp
theorem azX4_16 {c : Nat → Prop} : am_ar (sm_s0 16) 0 c = c 600 := by
  show (0 = 0 ∧ c 600) = _
  simp
theorem azX4_17 {c : Nat → Prop} : am_ar (sm_s0 17) 1 c = c 150 := by
  show (1 = 1 ∧ c 150) = _
  simp
theorem azX3_2 {L : Nat} {c : Nat → Prop} : am_ar (sd_s0 L 2) 0 c = c 80 := by
  show (0 = 0 ∧ c 80) = _
  simp
theorem azX3_3 {L : Nat} {c : Nat → Prop} : am_ar (sd_s0 L 3) 0 c = c 80 := by
  show (0 = 0 ∧ c 80) = _
  simp
theorem azX3_4 {L : Nat} {c : Nat → Prop} : am_ar (sd_s0 L 4) 0 c = c 80 := by
  show (0 = 0 ∧ c 80) = _
  simp
theorem azX3_5 {L : Nat} {c : Nat → Prop} : am_ar (sd_s0 L 5) 0 c = c 80 := by
  show (0 = 0 ∧ c 80) = _
  simp
theorem azX3_6 {L : Nat} {c : Nat → Prop} : am_ar (sd_s0 L 6) 0 c = c 80 := by
  show (0 = 0 ∧ c 80) = _
  simp
theorem azX3_7 {L : Nat} {c : Nat → Prop} : am_ar (sd_s0 L 7) 1 c = c 8 := by
  show (1 = 1 ∧ c 8) = _
  simp
theorem azX3_8 {L : Nat} {c : Nat → Prop} : am_ar (sd_s0 L 8) 0 c = c 9 := by
  show (0 = 0 ∧ c 9) = _
  simp
theorem azX3_10 {L : Nat} {c : Nat → Prop} : am_ar (sd_s0 L 10) 0 c = c 512 := by
  show (0 = 0 ∧ c 512) = _
  simp
theorem azX3_11 {L : Nat} {c : Nat → Prop} : am_ar (sd_s0 L 11) 0 c = c 512 := by
  show (0 = 0 ∧ c 512) = _
  simp
theorem azX3_12 {L : Nat} {c : Nat → Prop} : am_ar (sd_s0 L 12) 2 c = c 150 := by
  show (2 = 2 ∧ c 150) = _
  simp
theorem azX3_18 {L : Nat} {c : Nat → Prop} : am_ar (sd_s0 L 18) 2 c = c 150 := by
  show (2 = 2 ∧ c 150) = _
  simp
theorem azX3_19 {L : Nat} {c : Nat → Prop} : am_ar (sd_s0 L 19) 0 c = c 150 := by
  show (0 = 0 ∧ c 150) = _
  simp
theorem azX3_20 {L : Nat} {c : Nat → Prop} : am_ar (sd_s0 L 20) 0 c = c 80 := by
  show (0 = 0 ∧ c 80) = _
  simp
theorem pzX4_7 {v : Int32} {r : List Value} {D : am_D} {a : am_A} {k : List Value → am_D → am_A → Prop} : am_put sm_s0 (flX4 7) (.int v :: .ref 0 :: r) D a k = (0 < a.1 ∧ k r (am_up D 0 0 v) a) := by
  show (0 < a.1 ∧ 4 = 4 ∧ 0 < 23 ∧ k r (am_up D 0 0 v) a) = _
  simp
theorem pzX4_13 {v : Int32} {r : List Value} {D : am_D} {a : am_A} {k : List Value → am_D → am_A → Prop} : am_put sm_s0 (flX4 13) (.int v :: .ref 0 :: r) D a k = (0 < a.1 ∧ k r (am_up D 0 1 v) a) := by
  show (0 < a.1 ∧ 4 = 4 ∧ 1 < 23 ∧ k r (am_up D 0 1 v) a) = _
  simp
theorem pzX4_16 {v : Int32} {r : List Value} {D : am_D} {a : am_A} {k : List Value → am_D → am_A → Prop} : am_put sm_s0 (flX4 16) (.int v :: .ref 0 :: r) D a k = (0 < a.1 ∧ k r (am_up D 0 2 v) a) := by
  show (0 < a.1 ∧ 4 = 4 ∧ 2 < 23 ∧ k r (am_up D 0 2 v) a) = _
  simp
theorem pzX4_19 {v : Nat} {r : List Value} {D : am_D} {a : am_A} {k : List Value → am_D → am_A → Prop} : am_put sm_s0 (flX4 19) (.ref v :: .ref 0 :: r) D a k = (0 < a.1 ∧ 0 < v ∧ v < 2 ^ 31 ∧ k r (am_up D 0 3 (nI v)) a) := by
  show (0 < a.1 ∧ 4 = 4 ∧ 3 < 23 ∧ 0 < v ∧ v < 2 ^ 31 ∧ k r (am_up D 0 3 (nI v)) a) = _
  simp
theorem pzX4_23 {v : Nat} {r : List Value} {D : am_D} {a : am_A} {k : List Value → am_D → am_A → Prop} : am_put sm_s0 (flX4 23) (.ref v :: .ref 0 :: r) D a k = (0 < a.1 ∧ 0 < v ∧ v < 2 ^ 31 ∧ k r (am_up D 0 4 (nI v)) a) := by
  show (0 < a.1 ∧ 4 = 4 ∧ 4 < 23 ∧ 0 < v ∧ v < 2 ^ 31 ∧ k r (am_up D 0 4 (nI v)) a) = _
  simp
theorem pzX4_26 {v : Nat} {r : List Value} {D : am_D} {a : am_A} {k : List Value → am_D → am_A → Prop} : am_put sm_s0 (flX4 26) (.ref v :: .ref 0 :: r) D a k = (0 < a.1 ∧ 0 < v ∧ v < 2 ^ 31 ∧ k r (am_up D 0 5 (nI v)) a) := by
  show (0 < a.1 ∧ 4 = 4 ∧ 5 < 23 ∧ 0 < v ∧ v < 2 ^ 31 ∧ k r (am_up D 0 5 (nI v)) a) = _
  simp
theorem pzX4_30 {v : Nat} {r : List Value} {D : am_D} {a : am_A} {k : List Value → am_D → am_A → Prop} : am_put sm_s0 (flX4 30) (.ref v :: .ref 0 :: r) D a k = (0 < a.1 ∧ 0 < v ∧ v < 2 ^ 31 ∧ k r (am_up D 0 6 (nI v)) a) := by
  show (0 < a.1 ∧ 4 = 4 ∧ 6 < 23 ∧ 0 < v ∧ v < 2 ^ 31 ∧ k r (am_up D 0 6 (nI v)) a) = _
  simp
theorem pzX4_33 {v : Nat} {r : List Value} {D : am_D} {a : am_A} {k : List Value → am_D → am_A → Prop} : am_put sm_s0 (flX4 33) (.ref v :: .ref 0 :: r) D a k = (0 < a.1 ∧ 0 < v ∧ v < 2 ^ 31 ∧ k r (am_up D 0 7 (nI v)) a) := by
  show (0 < a.1 ∧ 4 = 4 ∧ 7 < 23 ∧ 0 < v ∧ v < 2 ^ 31 ∧ k r (am_up D 0 7 (nI v)) a) = _
  simp
theorem pzX4_36 {v : Int32} {r : List Value} {D : am_D} {a : am_A} {k : List Value → am_D → am_A → Prop} : am_put sm_s0 (flX4 36) (.int v :: .ref 0 :: r) D a k = (0 < a.1 ∧ k r (am_up D 0 8 v) a) := by
  show (0 < a.1 ∧ 4 = 4 ∧ 8 < 23 ∧ k r (am_up D 0 8 v) a) = _
  simp
theorem pzX4_39 {v : Nat} {r : List Value} {D : am_D} {a : am_A} {k : List Value → am_D → am_A → Prop} : am_put sm_s0 (flX4 39) (.ref v :: .ref 0 :: r) D a k = (0 < a.1 ∧ 0 < v ∧ v < 2 ^ 31 ∧ k r (am_up D 0 9 (nI v)) a) := by
  show (0 < a.1 ∧ 4 = 4 ∧ 9 < 23 ∧ 0 < v ∧ v < 2 ^ 31 ∧ k r (am_up D 0 9 (nI v)) a) = _
  simp
theorem pzX4_42 {v : Nat} {r : List Value} {D : am_D} {a : am_A} {k : List Value → am_D → am_A → Prop} : am_put sm_s0 (flX4 42) (.ref v :: .ref 0 :: r) D a k = (0 < a.1 ∧ 0 < v ∧ v < 2 ^ 31 ∧ k r (am_up D 0 10 (nI v)) a) := by
  show (0 < a.1 ∧ 4 = 4 ∧ 10 < 23 ∧ 0 < v ∧ v < 2 ^ 31 ∧ k r (am_up D 0 10 (nI v)) a) = _
  simp
theorem pzX4_45 {v : Nat} {r : List Value} {D : am_D} {a : am_A} {k : List Value → am_D → am_A → Prop} : am_put sm_s0 (flX4 45) (.ref v :: .ref 0 :: r) D a k = (0 < a.1 ∧ 0 < v ∧ v < 2 ^ 31 ∧ k r (am_up D 0 11 (nI v)) a) := by
  show (0 < a.1 ∧ 4 = 4 ∧ 11 < 23 ∧ 0 < v ∧ v < 2 ^ 31 ∧ k r (am_up D 0 11 (nI v)) a) = _
  simp
theorem pzX4_48 {v : Nat} {r : List Value} {D : am_D} {a : am_A} {k : List Value → am_D → am_A → Prop} : am_put sm_s0 (flX4 48) (.ref v :: .ref 0 :: r) D a k = (0 < a.1 ∧ 0 < v ∧ v < 2 ^ 31 ∧ k r (am_up D 0 12 (nI v)) a) := by
  show (0 < a.1 ∧ 4 = 4 ∧ 12 < 23 ∧ 0 < v ∧ v < 2 ^ 31 ∧ k r (am_up D 0 12 (nI v)) a) = _
  simp
theorem pzX4_51 {v : Nat} {r : List Value} {D : am_D} {a : am_A} {k : List Value → am_D → am_A → Prop} : am_put sm_s0 (flX4 51) (.ref v :: .ref 0 :: r) D a k = (0 < a.1 ∧ 0 < v ∧ v < 2 ^ 31 ∧ k r (am_up D 0 13 (nI v)) a) := by
  show (0 < a.1 ∧ 4 = 4 ∧ 13 < 23 ∧ 0 < v ∧ v < 2 ^ 31 ∧ k r (am_up D 0 13 (nI v)) a) = _
  simp
theorem pzX4_54 {v : Nat} {r : List Value} {D : am_D} {a : am_A} {k : List Value → am_D → am_A → Prop} : am_put sm_s0 (flX4 54) (.ref v :: .ref 0 :: r) D a k = (0 < a.1 ∧ 0 < v ∧ v < 2 ^ 31 ∧ k r (am_up D 0 14 (nI v)) a) := by
  show (0 < a.1 ∧ 4 = 4 ∧ 14 < 23 ∧ 0 < v ∧ v < 2 ^ 31 ∧ k r (am_up D 0 14 (nI v)) a) = _
  simp
theorem pzX4_57 {v : Nat} {r : List Value} {D : am_D} {a : am_A} {k : List Value → am_D → am_A → Prop} : am_put sm_s0 (flX4 57) (.ref v :: .ref 0 :: r) D a k = (0 < a.1 ∧ 0 < v ∧ v < 2 ^ 31 ∧ k r (am_up D 0 15 (nI v)) a) := by
  show (0 < a.1 ∧ 4 = 4 ∧ 15 < 23 ∧ 0 < v ∧ v < 2 ^ 31 ∧ k r (am_up D 0 15 (nI v)) a) = _
  simp
theorem pzX4_60 {v : Nat} {r : List Value} {D : am_D} {a : am_A} {k : List Value → am_D → am_A → Prop} : am_put sm_s0 (flX4 60) (.ref v :: .ref 0 :: r) D a k = (0 < a.1 ∧ 0 < v ∧ v < 2 ^ 31 ∧ k r (am_up D 0 16 (nI v)) a) := by
  show (0 < a.1 ∧ 4 = 4 ∧ 16 < 23 ∧ 0 < v ∧ v < 2 ^ 31 ∧ k r (am_up D 0 16 (nI v)) a) = _
  simp
theorem pzX4_63 {v : Int32} {r : List Value} {D : am_D} {a : am_A} {k : List Value → am_D → am_A → Prop} : am_put sm_s0 (flX4 63) (.int v :: .ref 0 :: r) D a k = (0 < a.1 ∧ k r (am_up D 0 17 v) a) := by
  show (0 < a.1 ∧ 4 = 4 ∧ 17 < 23 ∧ k r (am_up D 0 17 v) a) = _
  simp
theorem pzX4_66 {v : Nat} {r : List Value} {D : am_D} {a : am_A} {k : List Value → am_D → am_A → Prop} : am_put sm_s0 (flX4 66) (.ref v :: .ref 0 :: r) D a k = (0 < a.1 ∧ 0 < v ∧ v < 2 ^ 31 ∧ k r (am_up D 0 18 (nI v)) a) := by
  show (0 < a.1 ∧ 4 = 4 ∧ 18 < 23 ∧ 0 < v ∧ v < 2 ^ 31 ∧ k r (am_up D 0 18 (nI v)) a) = _
  simp
theorem pzX4_69 {v : Nat} {r : List Value} {D : am_D} {a : am_A} {k : List Value → am_D → am_A → Prop} : am_put sm_s0 (flX4 69) (.ref v :: .ref 0 :: r) D a k = (0 < a.1 ∧ 0 < v ∧ v < 2 ^ 31 ∧ k r (am_up D 0 19 (nI v)) a) := by
  show (0 < a.1 ∧ 4 = 4 ∧ 19 < 23 ∧ 0 < v ∧ v < 2 ^ 31 ∧ k r (am_up D 0 19 (nI v)) a) = _
  simp
theorem pzX4_72 {v : Nat} {r : List Value} {D : am_D} {a : am_A} {k : List Value → am_D → am_A → Prop} : am_put sm_s0 (flX4 72) (.ref v :: .ref 0 :: r) D a k = (0 < a.1 ∧ 0 < v ∧ v < 2 ^ 31 ∧ k r (am_up D 0 20 (nI v)) a) := by
  show (0 < a.1 ∧ 4 = 4 ∧ 20 < 23 ∧ 0 < v ∧ v < 2 ^ 31 ∧ k r (am_up D 0 20 (nI v)) a) = _
  simp
theorem pzX4_75 {v : Int32} {r : List Value} {D : am_D} {a : am_A} {k : List Value → am_D → am_A → Prop} : am_put sm_s0 (flX4 75) (.int v :: .ref 0 :: r) D a k = (0 < a.1 ∧ k r (am_up D 0 21 v) a) := by
  show (0 < a.1 ∧ 4 = 4 ∧ 21 < 23 ∧ k r (am_up D 0 21 v) a) = _
  simp
theorem pzX4_78 {v : Nat} {r : List Value} {D : am_D} {a : am_A} {k : List Value → am_D → am_A → Prop} : am_put sm_s0 (flX4 78) (.ref v :: .ref 0 :: r) D a k = (0 < a.1 ∧ 0 < v ∧ v < 2 ^ 31 ∧ k r (am_up D 0 22 (nI v)) a) := by
  show (0 < a.1 ∧ 4 = 4 ∧ 22 < 23 ∧ 0 < v ∧ v < 2 ^ 31 ∧ k r (am_up D 0 22 (nI v)) a) = _
  simp
theorem pzX0_9 {L : Nat} {v : Nat} {r : List Value} {D : am_D} {a : am_A} {k : List Value → am_D → am_A → Prop} : am_put (sd_s0 L) (flX0 9) (.ref v :: .ref 9 :: r) D a k = (9 < a.1 ∧ 0 < v ∧ v < 2 ^ 31 ∧ k r (am_up D 9 0 (nI v)) a) := by
  show (9 < a.1 ∧ 0 = 0 ∧ 0 < 3 ∧ 0 < v ∧ v < 2 ^ 31 ∧ k r (am_up D 9 0 (nI v)) a) = _
  simp
theorem pzX0_15 {L : Nat} {v : Nat} {r : List Value} {D : am_D} {a : am_A} {k : List Value → am_D → am_A → Prop} : am_put (sd_s0 L) (flX0 15) (.ref v :: .ref 9 :: r) D a k = (9 < a.1 ∧ 0 < v ∧ v < 2 ^ 31 ∧ k r (am_up D 9 1 (nI v)) a) := by
  show (9 < a.1 ∧ 0 = 0 ∧ 1 < 3 ∧ 0 < v ∧ v < 2 ^ 31 ∧ k r (am_up D 9 1 (nI v)) a) = _
  simp
theorem pzX2_9 {L : Nat} {v : Nat} {r : List Value} {D : am_D} {a : am_A} {k : List Value → am_D → am_A → Prop} : am_put (sd_s0 L) (flX2 9) (.ref v :: .ref 1 :: r) D a k = (1 < a.1 ∧ 0 < v ∧ v < 2 ^ 31 ∧ k r (am_up D 1 2 (nI v)) a) := by
  show (1 < a.1 ∧ 2 = 2 ∧ 2 < 10 ∧ 0 < v ∧ v < 2 ^ 31 ∧ k r (am_up D 1 2 (nI v)) a) = _
  simp
theorem pzX2_15 {L : Nat} {v : Nat} {r : List Value} {D : am_D} {a : am_A} {k : List Value → am_D → am_A → Prop} : am_put (sd_s0 L) (flX2 15) (.ref v :: .ref 1 :: r) D a k = (1 < a.1 ∧ 0 < v ∧ v < 2 ^ 31 ∧ k r (am_up D 1 3 (nI v)) a) := by
  show (1 < a.1 ∧ 2 = 2 ∧ 3 < 10 ∧ 0 < v ∧ v < 2 ^ 31 ∧ k r (am_up D 1 3 (nI v)) a) = _
  simp
theorem pzX2_18 {L : Nat} {v : Nat} {r : List Value} {D : am_D} {a : am_A} {k : List Value → am_D → am_A → Prop} : am_put (sd_s0 L) (flX2 18) (.ref v :: .ref 1 :: r) D a k = (1 < a.1 ∧ 0 < v ∧ v < 2 ^ 31 ∧ k r (am_up D 1 4 (nI v)) a) := by
  show (1 < a.1 ∧ 2 = 2 ∧ 4 < 10 ∧ 0 < v ∧ v < 2 ^ 31 ∧ k r (am_up D 1 4 (nI v)) a) = _
  simp
theorem pzX2_21 {L : Nat} {v : Nat} {r : List Value} {D : am_D} {a : am_A} {k : List Value → am_D → am_A → Prop} : am_put (sd_s0 L) (flX2 21) (.ref v :: .ref 1 :: r) D a k = (1 < a.1 ∧ 0 < v ∧ v < 2 ^ 31 ∧ k r (am_up D 1 5 (nI v)) a) := by
  show (1 < a.1 ∧ 2 = 2 ∧ 5 < 10 ∧ 0 < v ∧ v < 2 ^ 31 ∧ k r (am_up D 1 5 (nI v)) a) = _
  simp
theorem pzX2_24 {L : Nat} {v : Nat} {r : List Value} {D : am_D} {a : am_A} {k : List Value → am_D → am_A → Prop} : am_put (sd_s0 L) (flX2 24) (.ref v :: .ref 1 :: r) D a k = (1 < a.1 ∧ 0 < v ∧ v < 2 ^ 31 ∧ k r (am_up D 1 6 (nI v)) a) := by
  show (1 < a.1 ∧ 2 = 2 ∧ 6 < 10 ∧ 0 < v ∧ v < 2 ^ 31 ∧ k r (am_up D 1 6 (nI v)) a) = _
  simp
theorem pzX2_27 {L : Nat} {v : Nat} {r : List Value} {D : am_D} {a : am_A} {k : List Value → am_D → am_A → Prop} : am_put (sd_s0 L) (flX2 27) (.ref v :: .ref 1 :: r) D a k = (1 < a.1 ∧ 0 < v ∧ v < 2 ^ 31 ∧ k r (am_up D 1 8 (nI v)) a) := by
  show (1 < a.1 ∧ 2 = 2 ∧ 8 < 10 ∧ 0 < v ∧ v < 2 ^ 31 ∧ k r (am_up D 1 8 (nI v)) a) = _
  simp
theorem pzX2_31 {L : Nat} {v : Nat} {r : List Value} {D : am_D} {a : am_A} {k : List Value → am_D → am_A → Prop} : am_put (sd_s0 L) (flX2 31) (.ref v :: .ref 1 :: r) D a k = (1 < a.1 ∧ 0 < v ∧ v < 2 ^ 31 ∧ k r (am_up D 1 9 (nI v)) a) := by
  show (1 < a.1 ∧ 2 = 2 ∧ 9 < 10 ∧ 0 < v ∧ v < 2 ^ 31 ∧ k r (am_up D 1 9 (nI v)) a) = _
  simp
theorem pzX2_34 {L : Nat} {v : Int32} {r : List Value} {D : am_D} {a : am_A} {k : List Value → am_D → am_A → Prop} : am_put (sd_s0 L) (flX2 34) (.int v :: .ref 1 :: r) D a k = (1 < a.1 ∧ k r (am_up D 1 0 v) a) := by
  show (1 < a.1 ∧ 2 = 2 ∧ 0 < 10 ∧ k r (am_up D 1 0 v) a) = _
  simp
theorem pzX3_9 {L : Nat} {v : Int32} {r : List Value} {D : am_D} {a : am_A} {k : List Value → am_D → am_A → Prop} : am_put (sd_s0 L) (flX3 9) (.int v :: .ref 0 :: r) D a k = (0 < a.1 ∧ k r (am_up D 0 0 v) a) := by
  show (0 < a.1 ∧ 3 = 3 ∧ 0 < 10 ∧ k r (am_up D 0 0 v) a) = _
  simp
theorem pzX3_18 {L : Nat} {v : Nat} {r : List Value} {D : am_D} {a : am_A} {k : List Value → am_D → am_A → Prop} : am_put (sd_s0 L) (flX3 18) (.ref v :: .ref 0 :: r) D a k = (0 < a.1 ∧ 0 < v ∧ v < 2 ^ 31 ∧ k r (am_up D 0 1 (nI v)) a) := by
  show (0 < a.1 ∧ 3 = 3 ∧ 1 < 10 ∧ 0 < v ∧ v < 2 ^ 31 ∧ k r (am_up D 0 1 (nI v)) a) = _
  simp
theorem pzX3_25 {L : Nat} {v : Nat} {r : List Value} {D : am_D} {a : am_A} {k : List Value → am_D → am_A → Prop} : am_put (sd_s0 L) (flX3 25) (.ref v :: .ref 0 :: r) D a k = (0 < a.1 ∧ 0 < v ∧ v < 2 ^ 31 ∧ k r (am_up D 0 2 (nI v)) a) := by
  show (0 < a.1 ∧ 3 = 3 ∧ 2 < 10 ∧ 0 < v ∧ v < 2 ^ 31 ∧ k r (am_up D 0 2 (nI v)) a) = _
  simp
theorem pzX3_31 {L : Nat} {v : Nat} {r : List Value} {D : am_D} {a : am_A} {k : List Value → am_D → am_A → Prop} : am_put (sd_s0 L) (flX3 31) (.ref v :: .ref 0 :: r) D a k = (0 < a.1 ∧ 0 < v ∧ v < 2 ^ 31 ∧ k r (am_up D 0 3 (nI v)) a) := by
  show (0 < a.1 ∧ 3 = 3 ∧ 3 < 10 ∧ 0 < v ∧ v < 2 ^ 31 ∧ k r (am_up D 0 3 (nI v)) a) = _
  simp
theorem pzX3_37 {L : Nat} {v : Nat} {r : List Value} {D : am_D} {a : am_A} {k : List Value → am_D → am_A → Prop} : am_put (sd_s0 L) (flX3 37) (.ref v :: .ref 0 :: r) D a k = (0 < a.1 ∧ 0 < v ∧ v < 2 ^ 31 ∧ k r (am_up D 0 5 (nI v)) a) := by
  show (0 < a.1 ∧ 3 = 3 ∧ 5 < 10 ∧ 0 < v ∧ v < 2 ^ 31 ∧ k r (am_up D 0 5 (nI v)) a) = _
  simp
theorem pzX3_40 {L : Nat} {v : Nat} {r : List Value} {D : am_D} {a : am_A} {k : List Value → am_D → am_A → Prop} : am_put (sd_s0 L) (flX3 40) (.ref v :: .ref 0 :: r) D a k = (0 < a.1 ∧ 0 < v ∧ v < 2 ^ 31 ∧ k r (am_up D 0 7 (nI v)) a) := by
  show (0 < a.1 ∧ 3 = 3 ∧ 7 < 10 ∧ 0 < v ∧ v < 2 ^ 31 ∧ k r (am_up D 0 7 (nI v)) a) = _
  simp
theorem pzX3_43 {L : Nat} {v : Nat} {r : List Value} {D : am_D} {a : am_A} {k : List Value → am_D → am_A → Prop} : am_put (sd_s0 L) (flX3 43) (.ref v :: .ref 0 :: r) D a k = (0 < a.1 ∧ 0 < v ∧ v < 2 ^ 31 ∧ k r (am_up D 0 8 (nI v)) a) := by
  show (0 < a.1 ∧ 3 = 3 ∧ 8 < 10 ∧ 0 < v ∧ v < 2 ^ 31 ∧ k r (am_up D 0 8 (nI v)) a) = _
  simp
theorem pzX3_47 {L : Nat} {v : Nat} {r : List Value} {D : am_D} {a : am_A} {k : List Value → am_D → am_A → Prop} : am_put (sd_s0 L) (flX3 47) (.ref v :: .ref 0 :: r) D a k = (0 < a.1 ∧ 0 < v ∧ v < 2 ^ 31 ∧ k r (am_up D 0 9 (nI v)) a) := by
  show (0 < a.1 ∧ 3 = 3 ∧ 9 < 10 ∧ 0 < v ∧ v < 2 ^ 31 ∧ k r (am_up D 0 9 (nI v)) a) = _
  simp
theorem gzX3_9 {L : Nat} {r : List Value} {D : am_D} {a : am_A} {k : List Value → am_D → am_A → Prop} : am_get (sd_s0 L) (flX3 9) (.ref 0 :: r) D a k = (0 < a.1 ∧ k (.int (D 0 0) :: r) D a) := by
  show (0 < a.1 ∧ 3 = 3 ∧ 0 < 10 ∧ k (.int (D 0 0) :: r) D a) = _
  simp
def caX4_init : am_M := fun i st D a k => match i with
  | .invokespecial 1 => am_objI st D a k
  | _ => False
theorem caX4_init_1 {st : List Value} {D : am_D} {a : am_A} {k : List Value → am_D → am_A → Prop} : caX4_init (.invokespecial 1) st D a k = (am_objI st D a k) := am_nr rfl
def sp_X4_init : am_P := fun vs _ N k => ∃ x : Int32, vs = [.ref 0, .int x] ∧ N = 1 ∧ ∀ M : am_D, mRefs M → (∀ n j, 1 ≤ n → n < 18 → M n j = 0) → M 0 1 = stI x → M 0 2 = 0 → M 0 8 = 0 → M 0 17 = 0 → M 0 21 = 0 → k none M 18
set_option maxRecDepth 20000 in
theorem puX4_init : am_Go sm_s0 17 11771 flX4 nwX4 (caX4_init) bX4_init none 2 (sp_X4_init) := by
  rintro vs D N k ⟨x, rfl, rfl, hk⟩
  refine ⟨Nat.le_of_ble_eq_true rfl, fun K hC => ?_⟩
  have fin : ∀ M : am_D, mRefs M → (∀ n j, 1 ≤ n → n < 18 → M n j = 0) → M 0 1 = stI x → M 0 2 = 0 → M 0 8 = 0 → M 0 17 = 0 → M 0 21 = 0 → K 199 [.ref 0, .int x] [] M (18, 17, 11771) := by
    intro M q1 q2 q3 q4 q5 q6 q7
    refine am_at hC rfl ?_
    simp only [↓ae_nil, ↓ae_iconst, ↓ae_bipush, ↓ae_sipush, ↓ae_null, ↓ae_iload_0, ↓ae_aload_0, ↓ae_aloadN_0, ↓ae_istore_0, ↓ae_astore_0, ↓ae_astoreN_0, ↓ae_iinc_0, ↓ae_iload_1, ↓ae_aload_1, ↓ae_aloadN_1, ↓ae_istore_1, ↓ae_astore_1, ↓ae_astoreN_1, ↓ae_iinc_1, ↓ae_iload_2, ↓ae_aload_2, ↓ae_aloadN_2, ↓ae_istore_2, ↓ae_astore_2, ↓ae_astoreN_2, ↓ae_iinc_2, ↓ae_iload_3, ↓ae_aload_3, ↓ae_aloadN_3, ↓ae_istore_3, ↓ae_astore_3, ↓ae_astoreN_3, ↓ae_iinc_3, ↓ae_iload_4, ↓ae_aload_4, ↓ae_aloadN_4, ↓ae_istore_4, ↓ae_astore_4, ↓ae_astoreN_4, ↓ae_iinc_4, ↓ae_iload_5, ↓ae_aload_5, ↓ae_aloadN_5, ↓ae_istore_5, ↓ae_astore_5, ↓ae_astoreN_5, ↓ae_iinc_5, ↓ae_iload_6, ↓ae_aload_6, ↓ae_aloadN_6, ↓ae_istore_6, ↓ae_astore_6, ↓ae_astoreN_6, ↓ae_iinc_6, ↓ae_iload_7, ↓ae_aload_7, ↓ae_aloadN_7, ↓ae_istore_7, ↓ae_astore_7, ↓ae_astoreN_7, ↓ae_iinc_7, ↓ae_iload_8, ↓ae_aload_8, ↓ae_aloadN_8, ↓ae_istore_8, ↓ae_astore_8, ↓ae_astoreN_8, ↓ae_iinc_8, ↓ae_iload_9, ↓ae_aload_9, ↓ae_aloadN_9, ↓ae_istore_9, ↓ae_astore_9, ↓ae_astoreN_9, ↓ae_iinc_9, ↓ae_iadd, ↓ae_isub, ↓ae_imul, ↓ae_iand, ↓ae_ior, ↓ae_ixor, ↓ae_ishl, ↓ae_iushr, ↓ae_ineg, ↓ae_dup, ↓ae_pop, ↓ae_dup2, ↓ae_goto, ↓ae_icmp_eq, ↓ae_if_eq, ↓ae_icmp_ne, ↓ae_if_ne, ↓ae_icmp_lt, ↓ae_if_lt, ↓ae_icmp_ge, ↓ae_if_ge, ↓ae_icmp_gt, ↓ae_if_gt, ↓ae_icmp_le, ↓ae_if_le, ↓ae_ifnull_r, ↓ae_ifnull_n, ↓ae_ifnonnull_r, ↓ae_ifnonnull_n, ↓ae_acmp_eq_rr, ↓ae_acmp_ne_rr, ↓ae_acmp_eq_rn, ↓ae_acmp_ne_rn, ↓ae_switch, ↓ae_iret, ↓ae_aret, ↓ae_ret, ↓aE_getfield, ↓aE_putfield, ↓aE_iaload, ↓aE_baload, ↓aE_iastore, ↓aE_bastore, ↓aE_aastore, ↓aE_arraylength, ↓aE_new, ↓aE_newarray_int, ↓aE_newarray_boolean, ↓aE_anewarray, ↓aE_invokevirtual, ↓aE_invokespecial, ↓aE_invokestatic, ↓aE_multianewarray, ↓aE_ldc_w, ↓aE_aaload, ↓ac_V1, ↓ac_V2, ↓ac_V3, ↓ac_V4, ↓ac_V5, ↓ac_V6, ↓ac_V7, ↓am_ac_S0, ↓am_ac_S1, ↓am_ac_S2, ↓am_ac_S3, ↓am_ac_S4, ↓am_ac_S5, ↓ag_astq, ↓ar_n, ↓ar_i, ↓ar_b, ↓ar_o, ↓af_X0_9_g, ↓af_X0_15_g, ↓af_X0_18_g, ↓af_X0_18_p, ↓af_X1_9_g, ↓af_X1_9_p, ↓af_X1_15_g, ↓af_X1_19_g, ↓af_X1_19_p, ↓af_X1_22_g, ↓af_X1_22_p, ↓af_X1_25_g, ↓af_X1_25_p, ↓af_X1_28_g, ↓af_X1_28_p, ↓af_X1_31_g, ↓af_X1_31_p, ↓af_X1_34_g, ↓af_X1_34_p, ↓af_X2_9_g, ↓af_X2_15_g, ↓af_X2_18_g, ↓af_X2_21_g, ↓af_X2_24_g, ↓af_X2_27_g, ↓af_X2_31_g, ↓af_X2_34_g, ↓af_X2_34_p, ↓af_X2_38_g, ↓af_X2_38_p, ↓af_X2_41_g, ↓af_X2_41_p, ↓af_X2_66_g, ↓af_X2_66_p, ↓af_X2_72_g, ↓af_X2_72_p, ↓af_X3_9_g, ↓af_X3_9_p, ↓af_X3_18_g, ↓af_X3_25_g, ↓af_X3_31_g, ↓af_X3_37_g, ↓af_X3_40_g, ↓af_X3_43_g, ↓af_X3_47_g, ↓af_X3_67_g, ↓af_X3_101_g, ↓af_X3_101_p, ↓af_X3_121_g, ↓af_X3_121_p, ↓af_X3_131_g, ↓af_X3_131_p, ↓af_X3_141_g, ↓af_X3_141_p, ↓af_X3_144_g, ↓af_X3_144_p, ↓af_X3_158_g, ↓af_X3_161_g, ↓af_X3_161_p, ↓af_X3_168_g, ↓af_X3_178_g, ↓af_X3_185_g, ↓af_X3_191_g, ↓af_X3_223_g, ↓af_X3_223_p, ↓af_X3_236_g, ↓af_X3_236_p, ↓af_X3_238_g, ↓af_X3_238_p, ↓af_X3_287_g, ↓af_X3_287_p, ↓af_X4_7_g, ↓af_X4_7_p, ↓af_X4_13_g, ↓af_X4_13_p, ↓af_X4_16_g, ↓af_X4_16_p, ↓af_X4_19_g, ↓af_X4_23_g, ↓af_X4_26_g, ↓af_X4_30_g, ↓af_X4_33_g, ↓af_X4_36_g, ↓af_X4_36_p, ↓af_X4_39_g, ↓af_X4_42_g, ↓af_X4_45_g, ↓af_X4_48_g, ↓af_X4_51_g, ↓af_X4_54_g, ↓af_X4_57_g, ↓af_X4_60_g, ↓af_X4_63_g, ↓af_X4_63_p, ↓af_X4_66_g, ↓af_X4_69_g, ↓af_X4_72_g, ↓af_X4_75_g, ↓af_X4_75_p, ↓af_X4_78_g, ↓aa_d_2_l, ↓aa_d_2_s, ↓aa_d_2_n, ↓aa_d_3_l, ↓aa_d_3_s, ↓aa_d_3_n, ↓aa_d_4_l, ↓aa_d_4_s, ↓aa_d_4_n, ↓aa_d_5_l, ↓aa_d_5_s, ↓aa_d_5_n, ↓aa_d_6_l, ↓aa_d_6_s, ↓aa_d_6_n, ↓aa_d_7_l, ↓aa_d_7_s, ↓aa_d_8_l, ↓aa_d_8_s, ↓aa_d_8_n, ↓aa_d_10_l, ↓aa_d_10_s, ↓aa_d_10_n, ↓aa_d_11_l, ↓aa_d_11_s, ↓aa_d_11_n, ↓aa_d_12_l, ↓aa_d_12_q, ↓aa_d_13_l, ↓aa_d_13_q, ↓aa_d_14_l, ↓aa_d_14_s, ↓aa_d_14_n, ↓aa_d_15_l, ↓aa_d_15_s, ↓aa_d_15_n, ↓aa_d_16_l, ↓aa_d_16_s, ↓aa_d_16_n, ↓aa_d_17_l, ↓aa_d_17_s, ↓aa_d_17_n, ↓aa_d_18_l, ↓aa_d_18_q, ↓aa_d_19_l, ↓aa_d_19_s, ↓aa_d_19_n, ↓aa_d_20_l, ↓aa_d_20_s, ↓aa_d_20_n, ↓aa_d_pn_l, ↓aa_d_pn_s, ↓aa_d_pn_n, ↓aa_m_1_l, ↓aa_m_1_s, ↓aa_m_1_n, ↓aa_m_2_l, ↓aa_m_2_s, ↓aa_m_2_n, ↓aa_m_3_l, ↓aa_m_3_s, ↓aa_m_4_l, ↓aa_m_4_s, ↓aa_m_4_n, ↓aa_m_5_l, ↓aa_m_5_s, ↓aa_m_5_n, ↓aa_m_6_l, ↓aa_m_6_s, ↓aa_m_6_n, ↓aa_m_7_l, ↓aa_m_7_s, ↓aa_m_7_n, ↓aa_m_8_l, ↓aa_m_8_s, ↓aa_m_8_n, ↓aa_m_9_l, ↓aa_m_9_s, ↓aa_m_9_n, ↓aa_m_10_l, ↓aa_m_10_s, ↓aa_m_10_n, ↓aa_m_11_l, ↓aa_m_11_s, ↓aa_m_12_l, ↓aa_m_12_s, ↓aa_m_12_n, ↓aa_m_13_l, ↓aa_m_13_s, ↓aa_m_13_n, ↓aa_m_14_l, ↓aa_m_14_s, ↓aa_m_14_n, ↓aa_m_15_l, ↓aa_m_15_s, ↓aa_m_15_n, ↓aa_m_16_l, ↓aa_m_16_s, ↓aa_m_16_n, ↓aa_m_17_l, ↓aa_m_17_s, ↓ao_d_0, ↓ao_d_1, ↓ao_d_9, ↓ao_d_rn, ↓ao_m_0, ag_ob, ag_ar, ag_sel2, ag_sel3, ag_new, ag_newa, ag_va0, ag_va1, ag_va2, ag_va3, ag_pv0, ag_pv1, ag_pv2, ag_rcv0, am_ne01, am_ne10, am_oi_m2, am_oi_m1, am_oi_0, am_oi_1, am_oi_2, am_oi_3, am_oi_4, am_oi_5, am_bi_m5, am_bi_m4, am_bi_m3, am_bi_m2, am_bi_8, am_bi_9, am_bi_10, am_bi_12, am_bi_16, am_bi_20, am_bi_29, am_bi_30, am_bi_31, am_bi_63, am_bi_80, am_bi_100, am_bi_116, am_si_150, am_si_255, am_si_512, am_si_600, am_si_4350, List.length_cons, List.length_nil, List.nil_append, List.cons_append, Option.toList_some, Option.toList_none, List.replicate_succ, List.replicate_zero, true_and, and_true, if_true, if_false, eq_self, not_true_eq_false, not_false_eq_true, false_or, or_false, true_or, or_true, false_implies, true_implies, implies_true, Nat.zero_add, Nat.add_zero, Nat.le_refl, Nat.zero_le, Nat.reduceAdd, Nat.reduceSub, Nat.reduceMul, Nat.reduceLT, Nat.reduceLeDiff, Nat.reduceEqDiff, Int.reduceAdd, Int.reduceNeg, Int.reduceToNat, Int.reduceLE, Int.reduceLT, Int.reduceNatCast, Int.reduceNatCast', sd_sh_rn, sd_sh_pn, ↓caX4_init_1]
    exact hk M q1 q2 q3 q4 q5 q6 q7
  refine am_at hC rfl ?_
  simp only [↓ae_nil, ↓ae_iconst, ↓ae_bipush, ↓ae_sipush, ↓ae_null, ↓ae_iload_0, ↓ae_aload_0, ↓ae_aloadN_0, ↓ae_istore_0, ↓ae_astore_0, ↓ae_astoreN_0, ↓ae_iinc_0, ↓ae_iload_1, ↓ae_aload_1, ↓ae_aloadN_1, ↓ae_istore_1, ↓ae_astore_1, ↓ae_astoreN_1, ↓ae_iinc_1, ↓ae_iload_2, ↓ae_aload_2, ↓ae_aloadN_2, ↓ae_istore_2, ↓ae_astore_2, ↓ae_astoreN_2, ↓ae_iinc_2, ↓ae_iload_3, ↓ae_aload_3, ↓ae_aloadN_3, ↓ae_istore_3, ↓ae_astore_3, ↓ae_astoreN_3, ↓ae_iinc_3, ↓ae_iload_4, ↓ae_aload_4, ↓ae_aloadN_4, ↓ae_istore_4, ↓ae_astore_4, ↓ae_astoreN_4, ↓ae_iinc_4, ↓ae_iload_5, ↓ae_aload_5, ↓ae_aloadN_5, ↓ae_istore_5, ↓ae_astore_5, ↓ae_astoreN_5, ↓ae_iinc_5, ↓ae_iload_6, ↓ae_aload_6, ↓ae_aloadN_6, ↓ae_istore_6, ↓ae_astore_6, ↓ae_astoreN_6, ↓ae_iinc_6, ↓ae_iload_7, ↓ae_aload_7, ↓ae_aloadN_7, ↓ae_istore_7, ↓ae_astore_7, ↓ae_astoreN_7, ↓ae_iinc_7, ↓ae_iload_8, ↓ae_aload_8, ↓ae_aloadN_8, ↓ae_istore_8, ↓ae_astore_8, ↓ae_astoreN_8, ↓ae_iinc_8, ↓ae_iload_9, ↓ae_aload_9, ↓ae_aloadN_9, ↓ae_istore_9, ↓ae_astore_9, ↓ae_astoreN_9, ↓ae_iinc_9, ↓ae_iadd, ↓ae_isub, ↓ae_imul, ↓ae_iand, ↓ae_ior, ↓ae_ixor, ↓ae_ishl, ↓ae_iushr, ↓ae_ineg, ↓ae_dup, ↓ae_pop, ↓ae_dup2, ↓ae_goto, ↓ae_icmp_eq, ↓ae_if_eq, ↓ae_icmp_ne, ↓ae_if_ne, ↓ae_icmp_lt, ↓ae_if_lt, ↓ae_icmp_ge, ↓ae_if_ge, ↓ae_icmp_gt, ↓ae_if_gt, ↓ae_icmp_le, ↓ae_if_le, ↓ae_ifnull_r, ↓ae_ifnull_n, ↓ae_ifnonnull_r, ↓ae_ifnonnull_n, ↓ae_acmp_eq_rr, ↓ae_acmp_ne_rr, ↓ae_acmp_eq_rn, ↓ae_acmp_ne_rn, ↓ae_switch, ↓ae_iret, ↓ae_aret, ↓ae_ret, ↓aE_getfield, ↓aE_putfield, ↓aE_iaload, ↓aE_baload, ↓aE_iastore, ↓aE_bastore, ↓aE_aastore, ↓aE_arraylength, ↓aE_new, ↓aE_newarray_int, ↓aE_newarray_boolean, ↓aE_anewarray, ↓aE_invokevirtual, ↓aE_invokespecial, ↓aE_invokestatic, ↓aE_multianewarray, ↓aE_ldc_w, ↓aE_aaload, ↓ac_V1, ↓ac_V2, ↓ac_V3, ↓ac_V4, ↓ac_V5, ↓ac_V6, ↓ac_V7, ↓am_ac_S0, ↓am_ac_S1, ↓am_ac_S2, ↓am_ac_S3, ↓am_ac_S4, ↓am_ac_S5, ↓ag_astq, ↓ar_n, ↓ar_i, ↓ar_b, ↓ar_o, ↓af_X0_9_g, ↓af_X0_15_g, ↓af_X0_18_g, ↓af_X0_18_p, ↓af_X1_9_g, ↓af_X1_9_p, ↓af_X1_15_g, ↓af_X1_19_g, ↓af_X1_19_p, ↓af_X1_22_g, ↓af_X1_22_p, ↓af_X1_25_g, ↓af_X1_25_p, ↓af_X1_28_g, ↓af_X1_28_p, ↓af_X1_31_g, ↓af_X1_31_p, ↓af_X1_34_g, ↓af_X1_34_p, ↓af_X2_9_g, ↓af_X2_15_g, ↓af_X2_18_g, ↓af_X2_21_g, ↓af_X2_24_g, ↓af_X2_27_g, ↓af_X2_31_g, ↓af_X2_34_g, ↓af_X2_34_p, ↓af_X2_38_g, ↓af_X2_38_p, ↓af_X2_41_g, ↓af_X2_41_p, ↓af_X2_66_g, ↓af_X2_66_p, ↓af_X2_72_g, ↓af_X2_72_p, ↓af_X3_9_g, ↓af_X3_9_p, ↓af_X3_18_g, ↓af_X3_25_g, ↓af_X3_31_g, ↓af_X3_37_g, ↓af_X3_40_g, ↓af_X3_43_g, ↓af_X3_47_g, ↓af_X3_67_g, ↓af_X3_101_g, ↓af_X3_101_p, ↓af_X3_121_g, ↓af_X3_121_p, ↓af_X3_131_g, ↓af_X3_131_p, ↓af_X3_141_g, ↓af_X3_141_p, ↓af_X3_144_g, ↓af_X3_144_p, ↓af_X3_158_g, ↓af_X3_161_g, ↓af_X3_161_p, ↓af_X3_168_g, ↓af_X3_178_g, ↓af_X3_185_g, ↓af_X3_191_g, ↓af_X3_223_g, ↓af_X3_223_p, ↓af_X3_236_g, ↓af_X3_236_p, ↓af_X3_238_g, ↓af_X3_238_p, ↓af_X3_287_g, ↓af_X3_287_p, ↓af_X4_7_g, ↓af_X4_7_p, ↓af_X4_13_g, ↓af_X4_13_p, ↓af_X4_16_g, ↓af_X4_16_p, ↓af_X4_19_g, ↓af_X4_23_g, ↓af_X4_26_g, ↓af_X4_30_g, ↓af_X4_33_g, ↓af_X4_36_g, ↓af_X4_36_p, ↓af_X4_39_g, ↓af_X4_42_g, ↓af_X4_45_g, ↓af_X4_48_g, ↓af_X4_51_g, ↓af_X4_54_g, ↓af_X4_57_g, ↓af_X4_60_g, ↓af_X4_63_g, ↓af_X4_63_p, ↓af_X4_66_g, ↓af_X4_69_g, ↓af_X4_72_g, ↓af_X4_75_g, ↓af_X4_75_p, ↓af_X4_78_g, ↓aa_d_2_l, ↓aa_d_2_s, ↓aa_d_2_n, ↓aa_d_3_l, ↓aa_d_3_s, ↓aa_d_3_n, ↓aa_d_4_l, ↓aa_d_4_s, ↓aa_d_4_n, ↓aa_d_5_l, ↓aa_d_5_s, ↓aa_d_5_n, ↓aa_d_6_l, ↓aa_d_6_s, ↓aa_d_6_n, ↓aa_d_7_l, ↓aa_d_7_s, ↓aa_d_8_l, ↓aa_d_8_s, ↓aa_d_8_n, ↓aa_d_10_l, ↓aa_d_10_s, ↓aa_d_10_n, ↓aa_d_11_l, ↓aa_d_11_s, ↓aa_d_11_n, ↓aa_d_12_l, ↓aa_d_12_q, ↓aa_d_13_l, ↓aa_d_13_q, ↓aa_d_14_l, ↓aa_d_14_s, ↓aa_d_14_n, ↓aa_d_15_l, ↓aa_d_15_s, ↓aa_d_15_n, ↓aa_d_16_l, ↓aa_d_16_s, ↓aa_d_16_n, ↓aa_d_17_l, ↓aa_d_17_s, ↓aa_d_17_n, ↓aa_d_18_l, ↓aa_d_18_q, ↓aa_d_19_l, ↓aa_d_19_s, ↓aa_d_19_n, ↓aa_d_20_l, ↓aa_d_20_s, ↓aa_d_20_n, ↓aa_d_pn_l, ↓aa_d_pn_s, ↓aa_d_pn_n, ↓aa_m_1_l, ↓aa_m_1_s, ↓aa_m_1_n, ↓aa_m_2_l, ↓aa_m_2_s, ↓aa_m_2_n, ↓aa_m_3_l, ↓aa_m_3_s, ↓aa_m_4_l, ↓aa_m_4_s, ↓aa_m_4_n, ↓aa_m_5_l, ↓aa_m_5_s, ↓aa_m_5_n, ↓aa_m_6_l, ↓aa_m_6_s, ↓aa_m_6_n, ↓aa_m_7_l, ↓aa_m_7_s, ↓aa_m_7_n, ↓aa_m_8_l, ↓aa_m_8_s, ↓aa_m_8_n, ↓aa_m_9_l, ↓aa_m_9_s, ↓aa_m_9_n, ↓aa_m_10_l, ↓aa_m_10_s, ↓aa_m_10_n, ↓aa_m_11_l, ↓aa_m_11_s, ↓aa_m_12_l, ↓aa_m_12_s, ↓aa_m_12_n, ↓aa_m_13_l, ↓aa_m_13_s, ↓aa_m_13_n, ↓aa_m_14_l, ↓aa_m_14_s, ↓aa_m_14_n, ↓aa_m_15_l, ↓aa_m_15_s, ↓aa_m_15_n, ↓aa_m_16_l, ↓aa_m_16_s, ↓aa_m_16_n, ↓aa_m_17_l, ↓aa_m_17_s, ↓ao_d_0, ↓ao_d_1, ↓ao_d_9, ↓ao_d_rn, ↓ao_m_0, ag_ob, ag_ar, ag_sel2, ag_sel3, ag_new, ag_newa, ag_va0, ag_va1, ag_va2, ag_va3, ag_pv0, ag_pv1, ag_pv2, ag_rcv0, am_ne01, am_ne10, am_oi_m2, am_oi_m1, am_oi_0, am_oi_1, am_oi_2, am_oi_3, am_oi_4, am_oi_5, am_bi_m5, am_bi_m4, am_bi_m3, am_bi_m2, am_bi_8, am_bi_9, am_bi_10, am_bi_12, am_bi_16, am_bi_20, am_bi_29, am_bi_30, am_bi_31, am_bi_63, am_bi_80, am_bi_100, am_bi_116, am_si_150, am_si_255, am_si_512, am_si_600, am_si_4350, List.length_cons, List.length_nil, List.nil_append, List.cons_append, Option.toList_some, Option.toList_none, List.replicate_succ, List.replicate_zero, true_and, and_true, if_true, if_false, eq_self, not_true_eq_false, not_false_eq_true, false_or, or_false, true_or, or_true, false_implies, true_implies, implies_true, Nat.zero_add, Nat.add_zero, Nat.le_refl, Nat.zero_le, Nat.reduceAdd, Nat.reduceSub, Nat.reduceMul, Nat.reduceLT, Nat.reduceLeDiff, Nat.reduceEqDiff, Int.reduceAdd, Int.reduceNeg, Int.reduceToNat, Int.reduceLE, Int.reduceLT, Int.reduceNatCast, Int.reduceNatCast', sd_sh_rn, sd_sh_pn, ↓caX4_init_1]
  refine ⟨0, rfl, ?_⟩
  simp only [↓ae_nil, ↓ae_iconst, ↓ae_bipush, ↓ae_sipush, ↓ae_null, ↓ae_iload_0, ↓ae_aload_0, ↓ae_aloadN_0, ↓ae_istore_0, ↓ae_astore_0, ↓ae_astoreN_0, ↓ae_iinc_0, ↓ae_iload_1, ↓ae_aload_1, ↓ae_aloadN_1, ↓ae_istore_1, ↓ae_astore_1, ↓ae_astoreN_1, ↓ae_iinc_1, ↓ae_iload_2, ↓ae_aload_2, ↓ae_aloadN_2, ↓ae_istore_2, ↓ae_astore_2, ↓ae_astoreN_2, ↓ae_iinc_2, ↓ae_iload_3, ↓ae_aload_3, ↓ae_aloadN_3, ↓ae_istore_3, ↓ae_astore_3, ↓ae_astoreN_3, ↓ae_iinc_3, ↓ae_iload_4, ↓ae_aload_4, ↓ae_aloadN_4, ↓ae_istore_4, ↓ae_astore_4, ↓ae_astoreN_4, ↓ae_iinc_4, ↓ae_iload_5, ↓ae_aload_5, ↓ae_aloadN_5, ↓ae_istore_5, ↓ae_astore_5, ↓ae_astoreN_5, ↓ae_iinc_5, ↓ae_iload_6, ↓ae_aload_6, ↓ae_aloadN_6, ↓ae_istore_6, ↓ae_astore_6, ↓ae_astoreN_6, ↓ae_iinc_6, ↓ae_iload_7, ↓ae_aload_7, ↓ae_aloadN_7, ↓ae_istore_7, ↓ae_astore_7, ↓ae_astoreN_7, ↓ae_iinc_7, ↓ae_iload_8, ↓ae_aload_8, ↓ae_aloadN_8, ↓ae_istore_8, ↓ae_astore_8, ↓ae_astoreN_8, ↓ae_iinc_8, ↓ae_iload_9, ↓ae_aload_9, ↓ae_aloadN_9, ↓ae_istore_9, ↓ae_astore_9, ↓ae_astoreN_9, ↓ae_iinc_9, ↓ae_iadd, ↓ae_isub, ↓ae_imul, ↓ae_iand, ↓ae_ior, ↓ae_ixor, ↓ae_ishl, ↓ae_iushr, ↓ae_ineg, ↓ae_dup, ↓ae_pop, ↓ae_dup2, ↓ae_goto, ↓ae_icmp_eq, ↓ae_if_eq, ↓ae_icmp_ne, ↓ae_if_ne, ↓ae_icmp_lt, ↓ae_if_lt, ↓ae_icmp_ge, ↓ae_if_ge, ↓ae_icmp_gt, ↓ae_if_gt, ↓ae_icmp_le, ↓ae_if_le, ↓ae_ifnull_r, ↓ae_ifnull_n, ↓ae_ifnonnull_r, ↓ae_ifnonnull_n, ↓ae_acmp_eq_rr, ↓ae_acmp_ne_rr, ↓ae_acmp_eq_rn, ↓ae_acmp_ne_rn, ↓ae_switch, ↓ae_iret, ↓ae_aret, ↓ae_ret, ↓aE_getfield, ↓aE_putfield, ↓aE_iaload, ↓aE_baload, ↓aE_iastore, ↓aE_bastore, ↓aE_aastore, ↓aE_arraylength, ↓aE_new, ↓aE_newarray_int, ↓aE_newarray_boolean, ↓aE_anewarray, ↓aE_invokevirtual, ↓aE_invokespecial, ↓aE_invokestatic, ↓aE_multianewarray, ↓aE_ldc_w, ↓aE_aaload, ↓ac_V1, ↓ac_V2, ↓ac_V3, ↓ac_V4, ↓ac_V5, ↓ac_V6, ↓ac_V7, ↓am_ac_S0, ↓am_ac_S1, ↓am_ac_S2, ↓am_ac_S3, ↓am_ac_S4, ↓am_ac_S5, ↓ag_astq, ↓ar_n, ↓ar_i, ↓ar_b, ↓ar_o, ↓af_X0_9_g, ↓af_X0_15_g, ↓af_X0_18_g, ↓af_X0_18_p, ↓af_X1_9_g, ↓af_X1_9_p, ↓af_X1_15_g, ↓af_X1_19_g, ↓af_X1_19_p, ↓af_X1_22_g, ↓af_X1_22_p, ↓af_X1_25_g, ↓af_X1_25_p, ↓af_X1_28_g, ↓af_X1_28_p, ↓af_X1_31_g, ↓af_X1_31_p, ↓af_X1_34_g, ↓af_X1_34_p, ↓af_X2_9_g, ↓af_X2_15_g, ↓af_X2_18_g, ↓af_X2_21_g, ↓af_X2_24_g, ↓af_X2_27_g, ↓af_X2_31_g, ↓af_X2_34_g, ↓af_X2_34_p, ↓af_X2_38_g, ↓af_X2_38_p, ↓af_X2_41_g, ↓af_X2_41_p, ↓af_X2_66_g, ↓af_X2_66_p, ↓af_X2_72_g, ↓af_X2_72_p, ↓af_X3_9_g, ↓af_X3_9_p, ↓af_X3_18_g, ↓af_X3_25_g, ↓af_X3_31_g, ↓af_X3_37_g, ↓af_X3_40_g, ↓af_X3_43_g, ↓af_X3_47_g, ↓af_X3_67_g, ↓af_X3_101_g, ↓af_X3_101_p, ↓af_X3_121_g, ↓af_X3_121_p, ↓af_X3_131_g, ↓af_X3_131_p, ↓af_X3_141_g, ↓af_X3_141_p, ↓af_X3_144_g, ↓af_X3_144_p, ↓af_X3_158_g, ↓af_X3_161_g, ↓af_X3_161_p, ↓af_X3_168_g, ↓af_X3_178_g, ↓af_X3_185_g, ↓af_X3_191_g, ↓af_X3_223_g, ↓af_X3_223_p, ↓af_X3_236_g, ↓af_X3_236_p, ↓af_X3_238_g, ↓af_X3_238_p, ↓af_X3_287_g, ↓af_X3_287_p, ↓af_X4_7_g, ↓af_X4_7_p, ↓af_X4_13_g, ↓af_X4_13_p, ↓af_X4_16_g, ↓af_X4_16_p, ↓af_X4_19_g, ↓af_X4_23_g, ↓af_X4_26_g, ↓af_X4_30_g, ↓af_X4_33_g, ↓af_X4_36_g, ↓af_X4_36_p, ↓af_X4_39_g, ↓af_X4_42_g, ↓af_X4_45_g, ↓af_X4_48_g, ↓af_X4_51_g, ↓af_X4_54_g, ↓af_X4_57_g, ↓af_X4_60_g, ↓af_X4_63_g, ↓af_X4_63_p, ↓af_X4_66_g, ↓af_X4_69_g, ↓af_X4_72_g, ↓af_X4_75_g, ↓af_X4_75_p, ↓af_X4_78_g, ↓aa_d_2_l, ↓aa_d_2_s, ↓aa_d_2_n, ↓aa_d_3_l, ↓aa_d_3_s, ↓aa_d_3_n, ↓aa_d_4_l, ↓aa_d_4_s, ↓aa_d_4_n, ↓aa_d_5_l, ↓aa_d_5_s, ↓aa_d_5_n, ↓aa_d_6_l, ↓aa_d_6_s, ↓aa_d_6_n, ↓aa_d_7_l, ↓aa_d_7_s, ↓aa_d_8_l, ↓aa_d_8_s, ↓aa_d_8_n, ↓aa_d_10_l, ↓aa_d_10_s, ↓aa_d_10_n, ↓aa_d_11_l, ↓aa_d_11_s, ↓aa_d_11_n, ↓aa_d_12_l, ↓aa_d_12_q, ↓aa_d_13_l, ↓aa_d_13_q, ↓aa_d_14_l, ↓aa_d_14_s, ↓aa_d_14_n, ↓aa_d_15_l, ↓aa_d_15_s, ↓aa_d_15_n, ↓aa_d_16_l, ↓aa_d_16_s, ↓aa_d_16_n, ↓aa_d_17_l, ↓aa_d_17_s, ↓aa_d_17_n, ↓aa_d_18_l, ↓aa_d_18_q, ↓aa_d_19_l, ↓aa_d_19_s, ↓aa_d_19_n, ↓aa_d_20_l, ↓aa_d_20_s, ↓aa_d_20_n, ↓aa_d_pn_l, ↓aa_d_pn_s, ↓aa_d_pn_n, ↓aa_m_1_l, ↓aa_m_1_s, ↓aa_m_1_n, ↓aa_m_2_l, ↓aa_m_2_s, ↓aa_m_2_n, ↓aa_m_3_l, ↓aa_m_3_s, ↓aa_m_4_l, ↓aa_m_4_s, ↓aa_m_4_n, ↓aa_m_5_l, ↓aa_m_5_s, ↓aa_m_5_n, ↓aa_m_6_l, ↓aa_m_6_s, ↓aa_m_6_n, ↓aa_m_7_l, ↓aa_m_7_s, ↓aa_m_7_n, ↓aa_m_8_l, ↓aa_m_8_s, ↓aa_m_8_n, ↓aa_m_9_l, ↓aa_m_9_s, ↓aa_m_9_n, ↓aa_m_10_l, ↓aa_m_10_s, ↓aa_m_10_n, ↓aa_m_11_l, ↓aa_m_11_s, ↓aa_m_12_l, ↓aa_m_12_s, ↓aa_m_12_n, ↓aa_m_13_l, ↓aa_m_13_s, ↓aa_m_13_n, ↓aa_m_14_l, ↓aa_m_14_s, ↓aa_m_14_n, ↓aa_m_15_l, ↓aa_m_15_s, ↓aa_m_15_n, ↓aa_m_16_l, ↓aa_m_16_s, ↓aa_m_16_n, ↓aa_m_17_l, ↓aa_m_17_s, ↓ao_d_0, ↓ao_d_1, ↓ao_d_9, ↓ao_d_rn, ↓ao_m_0, ag_ob, ag_ar, ag_sel2, ag_sel3, ag_new, ag_newa, ag_va0, ag_va1, ag_va2, ag_va3, ag_pv0, ag_pv1, ag_pv2, ag_rcv0, am_ne01, am_ne10, am_oi_m2, am_oi_m1, am_oi_0, am_oi_1, am_oi_2, am_oi_3, am_oi_4, am_oi_5, am_bi_m5, am_bi_m4, am_bi_m3, am_bi_m2, am_bi_8, am_bi_9, am_bi_10, am_bi_12, am_bi_16, am_bi_20, am_bi_29, am_bi_30, am_bi_31, am_bi_63, am_bi_80, am_bi_100, am_bi_116, am_si_150, am_si_255, am_si_512, am_si_600, am_si_4350, List.length_cons, List.length_nil, List.nil_append, List.cons_append, Option.toList_some, Option.toList_none, List.replicate_succ, List.replicate_zero, true_and, and_true, if_true, if_false, eq_self, not_true_eq_false, not_false_eq_true, false_or, or_false, true_or, or_true, false_implies, true_implies, implies_true, Nat.zero_add, Nat.add_zero, Nat.le_refl, Nat.zero_le, Nat.reduceAdd, Nat.reduceSub, Nat.reduceMul, Nat.reduceLT, Nat.reduceLeDiff, Nat.reduceEqDiff, Int.reduceAdd, Int.reduceNeg, Int.reduceToNat, Int.reduceLE, Int.reduceLT, Int.reduceNatCast, Int.reduceNatCast', sd_sh_rn, sd_sh_pn, ↓caX4_init_1, ↓pzX4_7, ↓pzX4_13, ↓pzX4_16, ↓pzX4_19, ↓pzX4_23, ↓pzX4_26, ↓pzX4_30, ↓pzX4_33, ↓pzX4_36, ↓pzX4_39, ↓pzX4_42, ↓pzX4_45, ↓pzX4_48, ↓pzX4_51, ↓pzX4_54, ↓pzX4_57, ↓pzX4_60, ↓pzX4_63, ↓pzX4_66, ↓pzX4_69, ↓pzX4_72, ↓pzX4_75, ↓pzX4_78, ↓azX4_1, ↓azX4_2, ↓azX4_3, ↓azX4_4, ↓azX4_5, ↓azX4_6, ↓azX4_7, ↓azX4_8, ↓azX4_9, ↓azX4_10, ↓azX4_11, ↓azX4_12, ↓azX4_13, ↓azX4_14, ↓azX4_15, ↓azX4_16, ↓azX4_17, tz_8, tn_8, tz_9, tn_9, tz_80, tn_80, tz_116, tn_116, tz_150, tn_150, tz_512, tn_512, tz_600, tn_600, tz_4350, tn_4350, not_false_eq_true, true_and, Nat.reduceLeDiff, Nat.reduceAdd, Nat.lt_add_one, Nat.zero_lt_succ]
  refine ⟨by decide, by decide, by decide, by decide, by decide, by decide, by decide, by decide, by decide, by decide, by decide, by decide, by decide, by decide, by decide, by decide, by decide, fun hx => ?_, fun hx => ⟨fun hx2 => ?_, fun hx2 => ?_⟩⟩
  · refine fin _ ?_ ?_ ?_ ?_ ?_ ?_ ?_
    · unfold mRefs
      simp [am_up, am_z]
    · intro n j h1 h2
      rcases (show n = 1 ∨ n = 2 ∨ n = 3 ∨ n = 4 ∨ n = 5 ∨ n = 6 ∨ n = 7 ∨ n = 8 ∨ n = 9 ∨ n = 10 ∨ n = 11 ∨ n = 12 ∨ n = 13 ∨ n = 14 ∨ n = 15 ∨ n = 16 ∨ n = 17 by omega) with rfl | rfl | rfl | rfl | rfl | rfl | rfl | rfl | rfl | rfl | rfl | rfl | rfl | rfl | rfl | rfl | rfl <;> simp [am_up, am_z]
    · unfold stI
      rw [if_pos (Or.inl hx)]
      simp [am_up, am_z]
    · simp [am_up, am_z]
    · simp [am_up, am_z]
    · simp [am_up, am_z]
    · simp [am_up, am_z]
  · refine fin _ ?_ ?_ ?_ ?_ ?_ ?_ ?_
    · unfold mRefs
      simp [am_up, am_z]
    · intro n j h1 h2
      rcases (show n = 1 ∨ n = 2 ∨ n = 3 ∨ n = 4 ∨ n = 5 ∨ n = 6 ∨ n = 7 ∨ n = 8 ∨ n = 9 ∨ n = 10 ∨ n = 11 ∨ n = 12 ∨ n = 13 ∨ n = 14 ∨ n = 15 ∨ n = 16 ∨ n = 17 by omega) with rfl | rfl | rfl | rfl | rfl | rfl | rfl | rfl | rfl | rfl | rfl | rfl | rfl | rfl | rfl | rfl | rfl <;> simp [am_up, am_z]
    · unfold stI
      rw [if_pos (Or.inr hx2)]
      simp [am_up, am_z]
    · simp [am_up, am_z]
    · simp [am_up, am_z]
    · simp [am_up, am_z]
    · simp [am_up, am_z]
  · refine fin _ ?_ ?_ ?_ ?_ ?_ ?_ ?_
    · unfold mRefs
      simp [am_up, am_z]
    · intro n j h1 h2
      rcases (show n = 1 ∨ n = 2 ∨ n = 3 ∨ n = 4 ∨ n = 5 ∨ n = 6 ∨ n = 7 ∨ n = 8 ∨ n = 9 ∨ n = 10 ∨ n = 11 ∨ n = 12 ∨ n = 13 ∨ n = 14 ∨ n = 15 ∨ n = 16 ∨ n = 17 by omega) with rfl | rfl | rfl | rfl | rfl | rfl | rfl | rfl | rfl | rfl | rfl | rfl | rfl | rfl | rfl | rfl | rfl <;> simp [am_up, am_z]
    · unfold stI
      rw [if_neg (fun z => z.elim hx hx2)]
      simp [am_up, am_z]
    · simp [am_up, am_z]
    · simp [am_up, am_z]
    · simp [am_up, am_z]
    · simp [am_up, am_z]
set_option maxRecDepth 20000 in
theorem csX4_init (l : Launch) : am_CS l cX4_init sm_s0 wsX4_init ({ frames := 1, cells := 17, slots := 11771, locals := 20 } : Room) 2 yX4_init bX4_init (caX4_init) := by
  intro p e s m args below meth c Qw G dT A H0 hx hb hml hts hown hnm hK hGl hA i n pc st D a k hu hd hn h
  unfold caX4_init at h
  split at h
  · have e1 := eq_of_beq hn
    subst e1
    exact am_objI_s hx hb hml hown (hts (.methodLink RX4 1 objectInit) (by decide +kernel)) (hts (.instanceMethod objectInit) (by decide +kernel)) (hts (.code objectInit ⟨#[0xb1]⟩ 1 none) (by decide +kernel)) (by decide) (by decide) hd h
  · exact h.elim
theorem ctX4_init (l : Launch) : am_Ctr l vwCl sm_s0 yX4_init wsX4_init ({ frames := 1, cells := 17, slots := 11771, locals := 20 } : Room) 17 11771 (sp_X4_init) := am_mk (cal := (caX4_init)) kX4_init sm_sc0 (by decide +kernel) rfl (Or.inl rfl) (fun _ => rfl) (csX4_init l) (puX4_init)
