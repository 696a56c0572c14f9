/-! ===== what a method's blocks owe; numbers; loops ===== -/
def am_Go (sh : Nat → am_Sh) (RC RS : Nat) (fl : Nat → Nat × Nat) (nw : Nat → Nat) (cal : am_M) (bs : List (Nat × List (Instr × Nat))) (ret : Option FieldType) (maxL : Nat) (P : am_P) : Prop := ∀ (vs : List Value) (D : am_D) (N : Nat) (k : Option Value → am_D → Nat → Prop), P vs D N k → vs.length ≤ maxL ∧ ∀ K : am_K, am_C (am_Em sh RC RS fl nw cal) bs K (am_Qr ret RC RS N k) → K 0 (vs ++ List.replicate (maxL - vs.length) am_u) [] D (N, 0, 0)
noncomputable def am_B (P : Prop) : Int32 := @ite Int32 P (Classical.propDecidable P) 1 0
theorem am_B_t {P : Prop} (h : P) : am_B P = 1 := if_pos h
theorem am_B_f {P : Prop} (h : ¬ P) : am_B P = 0 := if_neg h
theorem am_B_01 {P : Prop} : am_B P = 0 ∨ am_B P = 1 := by
  by_cases h : P
  · exact Or.inr (am_B_t h)
  · exact Or.inl (am_B_f h)
theorem am_B_ne {P : Prop} : ¬ am_B P = 0 ↔ P := by
  by_cases h : P
  · rw [am_B_t h]
    exact ⟨fun _ => h, fun _ => by decide⟩
  · rw [am_B_f h]
    exact ⟨fun q => absurd rfl q, fun q => absurd q h⟩
theorem am_B_eq {P : Prop} : am_B P = 0 ↔ ¬ P := by
  by_cases h : P
  · rw [am_B_t h]
    exact ⟨fun q => absurd q (by decide), fun q => absurd h q⟩
  · rw [am_B_f h]
    exact ⟨fun _ => h, fun _ => rfl⟩
theorem nI_lei {a b : Nat} (ha : a < 2 ^ 31) (hb : b < 2 ^ 31) : nI a ≤ nI b ↔ a ≤ b := by
  rw [Int32.le_iff_toInt_le, nI_toInt ha, nI_toInt hb]; omega
theorem nI_lti {a b : Nat} (ha : a < 2 ^ 31) (hb : b < 2 ^ 31) : nI a < nI b ↔ a < b := by
  rw [Int32.lt_iff_toInt_lt, nI_toInt ha, nI_toInt hb]; omega
theorem nI_inji {a b : Nat} (ha : a < 2 ^ 31) (hb : b < 2 ^ 31) : nI a = nI b ↔ a = b := by
  constructor
  · intro h
    have := congrArg Int32.toInt h
    rw [nI_toInt ha, nI_toInt hb] at this
    omega
  · intro h
    rw [h]
theorem nI_addA (a b : Nat) : nI a + nI b = nI (a + b) := (Int32.ofNat_add a b).symm
theorem nI_mulA (a b : Nat) : nI a * nI b = nI (a * b) := (Int32.ofNat_mul a b).symm
theorem nI_add1 (a : Nat) : nI a + 1 = nI (a + 1) := (nI_succ a).symm
/-- the first number below n that has p, else -1 -/
noncomputable def am_fst (p : Nat → Prop) : Nat → Nat → Int32
  | 0, _ => -1
  | f + 1, i => @ite Int32 (p i) (Classical.propDecidable _) (nI i) (am_fst p f (i + 1))
theorem am_fst_t {p : Nat → Prop} {f i : Nat} (h : p i) : am_fst p (f + 1) i = nI i := if_pos h
theorem am_fst_f {p : Nat → Prop} {f i : Nat} (h : ¬ p i) : am_fst p (f + 1) i = am_fst p f (i + 1) := if_neg h
/-- how many of the f numbers from i on have p, added to acc -/
noncomputable def am_cnt (p : Nat → Prop) : Nat → Nat → Nat → Nat
  | 0, _, acc => acc
  | f + 1, i, acc => @ite Nat (p i) (Classical.propDecidable _) (am_cnt p f (i + 1) (acc + 1)) (am_cnt p f (i + 1) acc)
theorem am_cnt_t {p : Nat → Prop} {f i acc : Nat} (h : p i) : am_cnt p (f + 1) i acc = am_cnt p f (i + 1) (acc + 1) := if_pos h
theorem am_cnt_f {p : Nat → Prop} {f i acc : Nat} (h : ¬ p i) : am_cnt p (f + 1) i acc = am_cnt p f (i + 1) acc := if_neg h
theorem am_down {n : Nat} {P : Nat → Prop} (h : ∀ i, i ≤ n → (i < n → P (i + 1)) → P i) : ∀ i, i ≤ n → P i := by
  have key : ∀ f i, i + f = n → P i := by
    intro f
    induction f with
    | zero => exact fun i hi => h i (by omega) (fun q => absurd q (by omega))
    | succ f ih => exact fun i hi => h i (by omega) (fun _ => ih (i + 1) (by omega))
  exact fun i hi => key (n - i) i (by omega)
theorem am_fst_neg {p : Nat → Prop} : ∀ f i, i + f < 2 ^ 31 → (am_fst p f i < 0 ↔ ∀ j, i ≤ j → j < i + f → ¬ p j)
  | 0, i, h => ⟨fun _ j h1 h2 => absurd h1 (by omega), fun _ => (by decide : (-1 : Int32) < 0)⟩
  | f + 1, i, h => by
    by_cases hp : p i
    · rw [am_fst_t hp]
      exact ⟨fun q => absurd q (nI_pos (by omega)), fun q => absurd hp (q i (Nat.le_refl _) (by omega))⟩
    · rw [am_fst_f hp, am_fst_neg f (i + 1) (by omega)]
      constructor
      · intro q j h1 h2
        by_cases hj : j = i
        · subst hj
          exact hp
        · exact q j (by omega) (by omega)
      · exact fun q j h1 h2 => q j (by omega) (by omega)
/-- what a first one is -/
theorem am_fst_at {p : Nat → Prop} : ∀ f i, i + f < 2 ^ 31 → ¬ am_fst p f i < 0 → ∃ j, i ≤ j ∧ j < i + f ∧ p j ∧ am_fst p f i = nI j ∧ ∀ j', i ≤ j' → j' < j → ¬ p j'
  | 0, i, h, hn => absurd (by decide : (-1 : Int32) < 0) hn
  | f + 1, i, h, hn => by
    by_cases hp : p i
    · exact ⟨i, Nat.le_refl _, by omega, hp, am_fst_t hp, fun j' h1 h2 => absurd h1 (by omega)⟩
    · rw [am_fst_f hp] at hn
      obtain ⟨j, h1, h2, h3, h4, h5⟩ := am_fst_at f (i + 1) (by omega) hn
      refine ⟨j, by omega, by omega, h3, by rw [am_fst_f hp]; exact h4, fun j' g1 g2 => ?_⟩
      by_cases hj : j' = i
      · subst hj
        exact hp
      · exact h5 j' (by omega) g2
