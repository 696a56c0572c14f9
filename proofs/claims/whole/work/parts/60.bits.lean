/-! ===== stretches as bits ===== -/
def bt (x : Int32) (s : Nat) : Prop := x.toBitVec.getLsbD s = true
theorem bt_or {x y : Int32} {s : Nat} : bt (x ||| y) s ↔ bt x s ∨ bt y s := by
  unfold bt
  rw [Int32.toBitVec_or, BitVec.getLsbD_or, Bool.or_eq_true]
theorem bt_and {x y : Int32} {s : Nat} : bt (x &&& y) s ↔ bt x s ∧ bt y s := by
  unfold bt
  rw [Int32.toBitVec_and, BitVec.getLsbD_and, Bool.and_eq_true]
theorem bt_ones {s : Nat} (h : s < 32) : bt (-1) s := by
  have : ∀ s, s < 32 → (-1 : Int32).toBitVec.getLsbD s = true := by decide
  exact this s h
theorem bt_not {x : Int32} {s : Nat} (h : s < 32) : bt (x ^^^ -1) s ↔ ¬ bt x s := by
  have h1 := bt_ones h
  unfold bt at *
  rw [Int32.toBitVec_xor, BitVec.getLsbD_xor, h1]
  cases x.toBitVec.getLsbD s <;> simp
theorem bt_ge {x : Int32} {s : Nat} (h : 32 ≤ s) : ¬ bt x s := by
  unfold bt
  rw [BitVec.getLsbD_of_ge _ _ h]
  exact Bool.false_ne_true
theorem bt_ext {x y : Int32} (h : ∀ s, s < 32 → (bt x s ↔ bt y s)) : x = y := by
  refine Int32.toBitVec_inj.mp (BitVec.eq_of_getLsbD_eq (fun s hs => ?_))
  have := h s hs
  unfold bt at this
  exact Bool.eq_iff_iff.mpr this
theorem bt_0 {s : Nat} : ¬ bt 0 s := by
  unfold bt
  simp
theorem bt_zero {x : Int32} : x = 0 ↔ ∀ s, s < 32 → ¬ bt x s := by
  constructor
  · rintro rfl s _
    exact bt_0
  · intro h
    exact bt_ext (fun s hs => ⟨fun z => absurd z (h s hs), fun z => absurd z bt_0⟩)
theorem wayI_nat : ∀ a, a < 30 → ∀ b, b < 30 → a ≤ b → (wayI (nI a) (nI b)).toBitVec.toNat = 2 ^ b - 2 ^ a := by decide +kernel
theorem bt_way {a b s : Nat} (hab : a ≤ b) (hb : b ≤ 29) : bt (wayI (nI a) (nI b)) s ↔ a ≤ s ∧ s < b := by
  unfold bt
  rw [← BitVec.testBit_toNat, wayI_nat a (by omega) b (by omega) hab]
  have e : 2 ^ b - 2 ^ a = 2 ^ a * (2 ^ (b - a) - 1) := by
    rw [Nat.mul_sub, ← Nat.pow_add, Nat.mul_one, show a + (b - a) = b by omega]
  rw [e, Nat.testBit_two_pow_mul, Nat.testBit_two_pow_sub_one]
  simp
  omega
theorem way_free {x : Int32} {a b : Nat} (hab : a ≤ b) (hb : b ≤ 29) : x &&& wayI (nI a) (nI b) = 0 ↔ ∀ s, a ≤ s → s < b → ¬ bt x s := by
  rw [bt_zero]
  constructor
  · intro h s h1 h2 h3
    exact h s (by omega) (bt_and.mpr ⟨h3, (bt_way hab hb).mpr ⟨h1, h2⟩⟩)
  · intro h s hs h1
    obtain ⟨h2, h3⟩ := bt_and.mp h1
    obtain ⟨h4, h5⟩ := (bt_way hab hb).mp h3
    exact h s h4 h5 h2
theorem bt_one {L s : Nat} (hL : L ≤ 29) : bt (1 <<< (nI L &&& 31)) s ↔ s = L := by
  have e : ∀ L, L < 30 → ((1 : Int32) <<< (nI L &&& 31)).toBitVec.toNat = 2 ^ L := by decide +kernel
  unfold bt
  rw [← BitVec.testBit_toNat, e L (by omega), Nat.testBit_two_pow]
  simp
  omega
theorem bt_shr {x : Int32} {k s : Nat} (hk : k ≤ 29) : bt (am_ushr x (nI k)) s ↔ bt x (k + s) := by
  have e : ∀ k, k < 30 → ((nI k).toUInt32 &&& Int32.toUInt32 31).toBitVec.toNat % 32 = k := by decide +kernel
  have e2 : (am_ushr x (nI k)).toBitVec = x.toBitVec >>> k := by
    unfold am_ushr
    show (x.toUInt32 >>> ((nI k).toUInt32 &&& Int32.toUInt32 31)).toBitVec = _
    rw [UInt32.toBitVec_shiftRight]
    have := e k (by omega)
    show x.toBitVec >>> (((nI k).toUInt32 &&& Int32.toUInt32 31).toBitVec % 32).toNat = x.toBitVec >>> k
    rw [BitVec.toNat_umod]
    exact congrArg (fun n => x.toBitVec >>> n) this
  unfold bt
  rw [e2, BitVec.getLsbD_ushiftRight]
theorem low_bit {x : Int32} {j : Nat} (hj : j < 32) (h1 : bt x j) (h2 : ∀ i, i < j → ¬ bt x i) : ∀ s, s < 32 → (bt (x &&& -x) s ↔ s = j) := by
  intro s hs
  rw [bt_and]
  unfold bt at *
  rw [Int32.toBitVec_neg, BitVec.getLsbD_neg]
  by_cases hsj : s = j
  · subst hsj
    have hno : ¬ ∃ i, i < s ∧ x.toBitVec.getLsbD i = true := fun ⟨i, q1, q2⟩ => h2 i q1 q2
    simp only [h1, hs, decide_true, Bool.true_and, decide_eq_false hno, Bool.xor_false, and_self]
  · constructor
    · rintro ⟨q1, q2⟩
      exfalso
      have hlt : j < s := by
        rcases Nat.lt_or_ge s j with z | z
        · exact absurd q1 (h2 s z)
        · omega
      have hyes : ∃ i, i < s ∧ x.toBitVec.getLsbD i = true := ⟨j, hlt, h1⟩
      rw [q1, decide_eq_true hs, decide_eq_true hyes] at q2
      exact absurd q2 (by decide)
    · exact fun z => absurd z hsj
theorem jBC_pow : ∀ j, j < 32 → jBC ((1 <<< nI j) - 1) = nI j := by decide +kernel
theorem bt_pow : ∀ j, j < 32 → ((1 : Int32) <<< nI j).toBitVec.toNat = 2 ^ j := by decide +kernel
/-- the number of bits below the lowest -/
theorem low_cnt {x : Int32} {j : Nat} (hj : j < 32) (h1 : bt x j) (h2 : ∀ i, i < j → ¬ bt x i) : jBC ((x &&& -x) - 1) = nI j := by
  have e : x &&& -x = 1 <<< nI j := by
    refine bt_ext (fun s hs => ?_)
    rw [low_bit hj h1 h2 s hs]
    unfold bt
    rw [← BitVec.testBit_toNat, bt_pow j hj, Nat.testBit_two_pow]
    simp
    omega
  rw [e]
  exact jBC_pow j hj
/-- a run of free stretches: what spaceFrom counts -/
theorem dSp_eq {L s n q : Nat} {D : am_D} (hL : L ≤ 29) (hs : s ≤ L) (hn : s + n ≤ L) (h1 : ∀ i, i < n → ¬ bt (D 5 q) (s + i) ∧ ¬ bt (D 6 q) (s + i)) (h2 : s + n = L ∨ bt (D 5 q) (s + n) ∨ bt (D 6 q) (s + n)) : dSp L D (nI s) q = nI n := by
  unfold dSp
  refine low_cnt (by omega) ?_ (fun i hi => ?_)
  · rw [bt_shr (by omega), bt_or, bt_or, bt_one hL]
    rcases h2 with h | h | h
    · exact Or.inr h
    · exact Or.inl (Or.inl h)
    · exact Or.inl (Or.inr h)
  · rw [bt_shr (by omega), bt_or, bt_or, bt_one hL]
    rintro ((h | h) | h)
    · exact (h1 i hi).1 h
    · exact (h1 i hi).2 h
    · omega
