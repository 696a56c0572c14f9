/-! ===== desk and reference: blocks ===== -/
noncomputable def z_i (P : Prop) : Nat := @ite Nat P (Classical.propDecidable P) 1 0
theorem z_i_t {P : Prop} (h : P) : z_i P = 1 := if_pos h
theorem z_i_f {P : Prop} (h : ¬ P) : z_i P = 0 := if_neg h
theorem z_i_c {P Q : Prop} (h : P ↔ Q) : z_i P = z_i Q := by
  by_cases p : P
  · rw [z_i_t p, z_i_t (h.mp p)]
  · rw [z_i_f p, z_i_f (fun z => p (h.mpr z))]
theorem am_cnt_last {p : Nat → Prop} : ∀ (f i acc : Nat), am_cnt p (f + 1) i acc = am_cnt p f i acc + z_i (p (i + f))
  | 0, i, acc => by
    by_cases h : p i
    · rw [am_cnt_t h, z_i_t (show p (i + 0) from h)]
      rfl
    · rw [am_cnt_f h, z_i_f (show ¬ p (i + 0) from h)]
      rfl
  | f + 1, i, acc => by
    by_cases h : p i
    · rw [am_cnt_t h, am_cnt_t (f := f) h, am_cnt_last f (i + 1) (acc + 1), show i + 1 + f = i + (f + 1) by omega]
    · rw [am_cnt_f h, am_cnt_f (f := f) h, am_cnt_last f (i + 1) acc, show i + 1 + f = i + (f + 1) by omega]
theorem cnt_at {p : Nat → Prop} {n i : Nat} (hi : i < n) : am_cnt p n 0 0 = am_cnt (fun j => j ≠ i ∧ p j) n 0 0 + z_i (p i) := by
  by_cases h : p i
  · rw [z_i_t h, ← am_cnt_ins (p := fun j => j ≠ i ∧ p j) (x := i) (fun z => z.1 rfl) n 0 0 (by omega) (by omega)]
    refine am_cnt_c _ _ _ (fun j _ _ => ?_)
    by_cases e : j = i
    · rw [e]
      exact ⟨fun _ => Or.inl rfl, fun _ => h⟩
    · exact ⟨fun z => Or.inr ⟨e, z⟩, fun z => z.elim (fun w => absurd w e) (fun w => w.2)⟩
  · rw [z_i_f h, Nat.add_zero]
    refine am_cnt_c _ _ _ (fun j _ _ => ⟨fun z => ⟨fun w => h (by rw [← w]; exact z), z⟩, fun z => z.2⟩)
theorem cnt_swap {p p' : Nat → Prop} {n i : Nat} (hi : i ≤ n) (h : ∀ j, j < n → (p' j ↔ if j = i then p n else p j)) : am_cnt p' n 0 0 + z_i (p i) = am_cnt p (n + 1) 0 0 := by
  rw [am_cnt_last, Nat.zero_add]
  by_cases e : i = n
  · subst e
    congr 1
    exact am_cnt_c _ _ _ (fun j _ hj => by rw [h j (by omega), if_neg (by omega)])
  · rw [cnt_at (p := p') (i := i) (n := n) (by omega), cnt_at (p := p) (i := i) (n := n) (by omega)]
    have h1 : am_cnt (fun j => j ≠ i ∧ p' j) n 0 0 = am_cnt (fun j => j ≠ i ∧ p j) n 0 0 := am_cnt_c _ _ _ (fun j _ hj => by
      constructor
      · rintro ⟨z1, z2⟩
        rw [h j (by omega), if_neg z1] at z2
        exact ⟨z1, z2⟩
      · rintro ⟨z1, z2⟩
        refine ⟨z1, ?_⟩
        rw [h j (by omega), if_neg z1]
        exact z2)
    have h2 : z_i (p' i) = z_i (p n) := z_i_c (by rw [h i (by omega), if_pos rfl])
    rw [h1, h2]
    omega
theorem cnt_drop {p p' : Nat → Prop} {b : Nat} : ∀ n, b ≤ n → (∀ j, j < n → (p' j ↔ if j < b then p j else p (j + 1))) → am_cnt p' n 0 0 + z_i (p b) = am_cnt p (n + 1) 0 0
  | n, hb, h => by
    rw [am_cnt_last, Nat.zero_add]
    by_cases e : b = n
    · subst e
      congr 1
      exact am_cnt_c _ _ _ (fun j _ hj => by rw [h j (by omega), if_pos (by omega)])
    · cases n with
      | zero => omega
      | succ n =>
        have ih := cnt_drop (p := p) (p' := p') n (by omega) (fun j hj => h j (by omega))
        rw [am_cnt_last, Nat.zero_add, z_i_c (h n (by omega)), if_neg (by omega), ← ih]
        omega
theorem am_cnt_ex {p : Nat → Prop} : ∀ (f i acc j : Nat), i ≤ j → j < i + f → p j → acc < am_cnt p f i acc
  | 0, i, acc, j, h1, h2, _ => absurd h1 (by omega)
  | f + 1, i, acc, j, h1, h2, h3 => by
    have hle : ∀ (f i acc : Nat), acc ≤ am_cnt p f i acc := by
      intro f
      induction f with
      | zero => exact fun i acc => Nat.le_refl _
      | succ f ih =>
        intro i acc
        by_cases hp : p i
        · rw [am_cnt_t hp]
          exact Nat.le_trans (by omega) (ih (i + 1) (acc + 1))
        · rw [am_cnt_f hp]
          exact ih (i + 1) acc
    by_cases hp : p i
    · rw [am_cnt_t hp]
      exact Nat.lt_of_lt_of_le (by omega) (hle f (i + 1) (acc + 1))
    · rw [am_cnt_f hp]
      exact am_cnt_ex f (i + 1) acc j (by
        rcases Nat.eq_or_lt_of_le h1 with e | e
        · exact absurd (by rw [e]; exact h3) hp
        · exact e) (by omega) h3
theorem rB.ex {L : Nat} {D M : am_D} {p w : Int32} (h : rB L D M) : (∃ j, j < bB D ∧ D 10 j = p ∧ D 11 j = w) ↔ ∃ b, b < vB M ∧ M 14 b = p ∧ wayI (M 15 b) (M 16 b) = w := by
  constructor
  · rintro ⟨j, h1, h2⟩
    have := am_cnt_ex (p := fun i => D 10 i = p ∧ D 11 i = w) (bB D) 0 0 j (by omega) (by omega) h2
    rw [h.2.1 (fun x y => x = p ∧ y = w)] at this
    obtain ⟨b, b1, b2, b3⟩ := am_cnt_pos _ _ _ this
    exact ⟨b, by omega, b3⟩
  · rintro ⟨j, h1, h2⟩
    have := am_cnt_ex (p := fun b => M 14 b = p ∧ wayI (M 15 b) (M 16 b) = w) (vB M) 0 0 j (by omega) (by omega) h2
    rw [← h.2.1 (fun x y => x = p ∧ y = w)] at this
    obtain ⟨b, b1, b2, b3⟩ := am_cnt_pos _ _ _ this
    exact ⟨b, by omega, b3⟩
theorem bKept_bt {D : am_D} {p : Int32} {s : Nat} : ∀ (f i : Nat) (x : Int32), bt (bKept D p f i x) s ↔ bt x s ∨ ∃ j, i ≤ j ∧ j < i + f ∧ D 10 j = p ∧ bt (D 11 j) s
  | 0, i, x => ⟨Or.inl, fun h => h.elim id (fun ⟨j, h1, h2, _⟩ => by omega)⟩
  | f + 1, i, x => by
    unfold bKept
    by_cases hp : D 10 i = p
    · rw [if_pos hp, bKept_bt f (i + 1), bt_or]
      constructor
      · rintro ((z | z) | ⟨j, z1, z2, z3⟩)
        · exact Or.inl z
        · exact Or.inr ⟨i, by omega, by omega, hp, z⟩
        · exact Or.inr ⟨j, by omega, by omega, z3⟩
      · rintro (z | ⟨j, z1, z2, z3⟩)
        · exact Or.inl (Or.inl z)
        · by_cases e : j = i
          · rw [e] at z3
            exact Or.inl (Or.inr z3.2)
          · exact Or.inr ⟨j, by omega, by omega, z3⟩
    · rw [if_neg hp, bKept_bt f (i + 1)]
      constructor
      · rintro (z | ⟨j, z1, z2, z3⟩)
        · exact Or.inl z
        · exact Or.inr ⟨j, by omega, by omega, z3⟩
      · rintro (z | ⟨j, z1, z2, z3⟩)
        · exact Or.inl z
        · by_cases e : j = i
          · rw [e] at z3
            exact absurd z3.1 hp
          · exact Or.inr ⟨j, by omega, by omega, z3⟩
theorem rB.kept {L s : Nat} {D M : am_D} {p : Int32} (h : rB L D M) (hL : L ≤ 29) (hs : s < 29) : bt (bKept D p (bB D) 0 0) s ↔ ∃ b, b < vB M ∧ mBk M p (nI s) b := by
  rw [bKept_bt]
  constructor
  · rintro (z | ⟨j, z1, z2, z3, z4⟩)
    · exact absurd z bt_0
    · obtain ⟨b, b1, b2, b3⟩ := (h.ex (p := p) (w := D 11 j)).mp ⟨j, by omega, z3, rfl⟩
      refine ⟨b, b1, b2, ?_⟩
      obtain ⟨q, a, e, y1, y2, y3, y4, y5, y6⟩ := h.2.2 b b1
      rw [← b3, y3, y4, bt_way (by omega) (by omega)] at z4
      rw [y3, y4, nI_lei (by omega) (by omega), nI_lti (by omega) (by omega)]
      exact z4
  · rintro ⟨b, b1, b2, b3, b4⟩
    right
    obtain ⟨j, j1, j2, j3⟩ := (h.ex (p := p) (w := wayI (M 15 b) (M 16 b))).mpr ⟨b, b1, b2, rfl⟩
    refine ⟨j, by omega, by omega, j2, ?_⟩
    obtain ⟨q, a, e, y1, y2, y3, y4, y5, y6⟩ := h.2.2 b b1
    rw [y3, nI_lei (by omega) (by omega)] at b3
    rw [y4, nI_lti (by omega) (by omega)] at b4
    rw [j3, y3, y4, bt_way (by omega) (by omega)]
    exact ⟨b3, b4⟩
theorem way_inj {a b a' b' : Nat} (h : a < b) (hb : b ≤ 29) (h' : a' < b') (hb' : b' ≤ 29) (e : wayI (nI a) (nI b) = wayI (nI a') (nI b')) : a = a' ∧ b = b' := by
  have key : ∀ s, (a ≤ s ∧ s < b) ↔ (a' ≤ s ∧ s < b') := fun s => by
    rw [← bt_way (Nat.le_of_lt h) hb, e, bt_way (Nat.le_of_lt h') hb']
  have k1 := (key a).mp (by omega)
  have k2 := (key a').mpr (by omega)
  have k3 := (key (b - 1)).mp (by omega)
  have k4 := (key (b' - 1)).mpr (by omega)
  omega
/-- what blocks alone have changed, at one seat -/
theorem Rel.blk {L A q : Nat} {D D' M M' : am_D} (h : Rel L A D M none) (hG : mG M') (hB : rB L D' M') (hbg : bG D') (ed : ∀ n j, n ≠ 9 → n ≠ 10 → n ≠ 11 → ¬ (n = 6 ∧ j = q) → D' n j = D n j) (em : ∀ n j, ¬ (n = 0 ∧ j = 17) → n ≠ 13 → n ≠ 14 → n ≠ 15 → n ≠ 16 → M' n j = M n j) (h6 : D' 6 q = bKept D' (nI q) (bB D') 0 0) (ho : ∀ p, p ≠ nI q → ∀ s, (∃ b, b < vB M' ∧ mBk M' p s b) ↔ ∃ b, b < vB M ∧ mBk M p s b) (hq : q < 80) : Rel L A D' M' none := by
  obtain ⟨n1, n2, n3, n4, n5, n6, n7, n8, n9⟩ := h.n
  have er : ∀ i j, D' (sd_rn i) j = D (sd_rn i) j := fun i j => ed _ j (by unfold sd_rn; omega) (by unfold sd_rn; omega) (by unfold sd_rn; omega) (by unfold sd_rn; omega)
  have ep : ∀ i j, D' (sd_pn i) j = D (sd_pn i) j := fun i j => ed _ j (by unfold sd_pn; omega) (by unfold sd_pn; omega) (by unfold sd_pn; omega) (by unfold sd_pn; omega)
  have es : ∀ n j, n ≠ 6 → n ≠ 9 → n ≠ 10 → n ≠ 11 → D' n j = D n j := fun n j z z1 z2 z3 => ed n j z1 z2 z3 (by omega)
  have em' : ∀ n j, n < 13 → ¬ (n = 0 ∧ j = 17) → M' n j = M n j := fun n j z z1 => em n j z1 (by omega) (by omega) (by omega) (by omega)
  have eR := zvR (em' 0 8 (by omega) (by omega))
  have eF : vF M (vC M) ≤ vF M' (vC M') := by
    rw [zvF (fun j => em' 1 j (by omega) (by omega)), zvC (em' 0 2 (by omega) (by omega))]
    exact Nat.le_refl _
  refine ⟨hG, mGR_of h.GR eR (zvL (em' 0 1 (by omega) (by omega))) (fun j => em' 7 j (by omega) (by omega)) (fun j => em' 8 j (by omega) (by omega)), h.O.eq (es 0 0 (by omega) (by omega) (by omega) (by omega)) (es 0 4 (by omega) (by omega) (by omega) (by omega)) (fun j => es 12 j (by omega) (by omega) (by omega) (by omega)) (fun j => es 13 j (by omega) (by omega) (by omega) (by omega)) (fun i => ⟨er i 0, er i 1⟩), h.sg.eq (fun j => es 1 j (by omega) (by omega) (by omega) (by omega)), hbg, h.S.eq (fun n j z => es n j (by omega) (by omega) (by omega) (by omega)) (fun n j z => em' n j (by omega) (by omega)), h.T.eq (fun x _ => es 5 x (by omega) (by omega) (by omega) (by omega)) eR (fun r _ s _ => em' 12 _ (by omega) (by omega)) n3, fun q' hq' ht s hs => ?_, h.R.eq (es 0 4 (by omega) (by omega) (by omega) (by omega)) (fun i _ j _ => er i j) (em' 0 8 (by omega) (by omega)) (fun i _ n z1 z2 => em' n i (by omega) (by omega)), h.P.eq (fun i _ j _ => ep i j) eR (fun r _ s _ => em' 12 _ (by omega) (by omega)) n3, h.Q.eq (fun n j z1 z2 => es n j (by omega) (by omega) (by omega) (by omega)) (fun j => em' 5 j (by omega) (by omega)), hB, (es 0 6 (by omega) (by omega) (by omega) (by omega)).trans (h.m.trans (em' 0 21 (by omega) (by omega)).symm), h.I.eq eR eF (fun q _ => zmK (fun j => em' 1 j (by omega) (by omega)) (fun j => em' 2 j (by omega) (by omega))) (fun r _ => ⟨em' 6 r (by omega) (by omega), em' 7 r (by omega) (by omega), em' 8 r (by omega) (by omega), em' 9 r (by omega) (by omega), fun s _ => em' 12 _ (by omega) (by omega)⟩)⟩
  by_cases e : q' = q
  · rw [e, h6]
    exact hB.kept n3 (by omega)
  · rw [ed 6 q' (by omega) (by omega) (by omega) (by omega), ho (nI q') (by rw [Ne, nI_inji (by omega) (by omega)]; exact e)]
    rw [zdC (es 1 1 (by omega) (by omega) (by omega) (by omega)), es 2 q' (by omega) (by omega) (by omega) (by omega)] at ht
    exact h.K q' hq' ht s hs
