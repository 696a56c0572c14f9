/-! ===== desk and reference: what is asked of rides ===== -/
theorem i32_pred {x y : Int32} {n : Nat} (h : x + nI n = y) : x + -1 + nI (n + 1) = y := by
  rw [nI_succ, Int32.add_assoc, ← Int32.add_assoc (-1), Int32.add_comm (-1) (nI n), Int32.add_assoc (nI n), show (-1 : Int32) + 1 = 0 from by decide, Int32.add_zero]
  exact h
theorem i32_zero {x y : Int32} {n : Nat} (h : x + nI n = y) : x = 0 ↔ nI n = y := by
  constructor
  · rintro rfl
    rw [Int32.zero_add] at h
    exact h
  · intro h2
    rw [h2] at h
    have := congrArg (fun z => z - y) h
    simp only [Int32.add_sub_cancel, Int32.sub_self] at this
    exact this
theorem std_eq {D M : am_D} {y : Int32} (hR : rR D M) : ∀ (f r n : Nat) (x : Int32), r + f ≤ vR M → x + nI n = y → dStF D f r x = mStF M y f r n
  | 0, _, _, _, _, _ => rfl
  | f + 1, r, n, x, hf, hx => by
    unfold dStF mStF
    obtain ⟨h2, h3, h4, h5, h6, h7⟩ := hR.2 r (by omega)
    rw [h6]
    by_cases hz : M 6 r = 3
    · rw [if_pos hz, if_pos hz]
      by_cases h0 : x = 0
      · rw [if_pos h0, if_pos ((i32_zero hx).mp h0)]
      · rw [if_neg h0, if_neg (fun z => h0 ((i32_zero hx).mpr z))]
        exact std_eq hR f (r + 1) (n + 1) _ (by omega) (i32_pred hx)
    · rw [if_neg hz, if_neg hz]
      exact std_eq hR f (r + 1) n _ (by omega) hx
theorem ma_eq {D M : am_D} {st y : Int32} {c c' : Nat} {k : Int32 → Int32} {k' : Nat → Int32} (hR : rR D M) (hS : rSt M) (hc : ∀ r, r < vR M → D (sd_rn r) c = M c' r) (hk : ∀ (n : Nat) (x : Int32), x + nI n = y → k x = k' n) : ∀ (f r n : Nat) (x : Int32), r + f ≤ vR M → x + nI n = y → dMaF D st c k f r x = mMaF M st y c' k' f r n
  | 0, _, n, x, _, hx => hk n x hx
  | f + 1, r, n, x, hf, hx => by
    unfold dMaF mMaF
    have h6 := (hR.2 r (by omega)).2.2.2.2.1
    have e : (D (sd_rn r) c = st ∧ ¬ D (sd_rn r) 6 = 0) ↔ (0 < M 6 r ∧ M c' r = st) := by
      rw [hc r (by omega), h6, hS.pos (by omega)]
      exact ⟨fun z => ⟨z.2, z.1⟩, fun z => ⟨z.2, z.1⟩⟩
    by_cases hz : D (sd_rn r) c = st ∧ ¬ D (sd_rn r) 6 = 0
    · rw [if_pos hz, if_pos (e.mp hz)]
      by_cases h0 : x = 0
      · rw [if_pos h0, if_pos ((i32_zero hx).mp h0)]
      · rw [if_neg h0, if_neg (fun z => h0 ((i32_zero hx).mpr z))]
        exact ma_eq hR hS hc hk f (r + 1) (n + 1) _ (by omega) (i32_pred hx)
    · rw [if_neg hz, if_neg (fun z => hz (e.mpr z))]
      exact ma_eq hR hS hc hk f (r + 1) n _ (by omega) hx
theorem man_eq {D M : am_D} {st x : Int32} (hR : rR D M) (hS : rSt M) : dMan D st x = mMan M st x := by
  unfold dMan mMan
  rw [hR.1]
  refine ma_eq hR hS (fun r hr => (hR.2 r hr).2.1) (fun n x' hx => ?_) (vR M) 0 0 x (by omega) (by rw [nI_0, Int32.add_zero])
  exact ma_eq hR hS (fun r hr => (hR.2 r hr).1) (fun _ _ _ => rfl) (vR M) 0 n x' (by omega) hx
theorem am_cnt_sh {p : Nat → Prop} : ∀ (f i acc : Nat), am_cnt p f (i + 1) acc = am_cnt (fun s => p (s + 1)) f i acc
  | 0, _, _ => rfl
  | f + 1, i, acc => by
    by_cases h : p (i + 1)
    · rw [am_cnt_t h, am_cnt_t (p := fun s => p (s + 1)) h]
      exact am_cnt_sh f (i + 1) _
    · rw [am_cnt_f h, am_cnt_f (p := fun s => p (s + 1)) h]
      exact am_cnt_sh f (i + 1) _
theorem chg_eq {L i : Nat} {D M : am_D} (hP : rP L D M) (hi : i < vR M) (hb : vb M i ≤ L) : nI (dChg D i (va M i) (vb M i)) = mChg M i := by
  unfold dChg mChg
  congr 1
  rw [am_cnt_sh, show vb M i - (va M i + 1) = vb M i - 1 - va M i by omega]
  refine am_cnt_c _ _ _ (fun j h1 h2 => ?_)
  show ¬ D (sd_pn i) (j + 1) = D (sd_pn i) (j + 1 - 1) ↔ _
  rw [Nat.add_sub_cancel, hP i hi (j + 1) (by omega), hP i hi j (by omega)]
  exact ⟨fun z y => z y.symm, fun z y => z y.symm⟩
/-- quotas are alike -/
def rQ (L : Nat) (D M : am_D) : Prop := ∀ g, g < 4 → ∀ s, s < L → D (14 + g) s = M 5 (4 * s + g)
theorem am_cnt_s {p : Nat → Prop} : ∀ (f i acc : Nat), am_cnt p f i (acc + 1) = am_cnt p f i acc + 1
  | 0, _, _ => rfl
  | f + 1, i, acc => by
    by_cases h : p i
    · rw [am_cnt_t h, am_cnt_t h]
      exact am_cnt_s f (i + 1) (acc + 1)
    · rw [am_cnt_f h, am_cnt_f h]
      exact am_cnt_s f (i + 1) acc
theorem i32_lt1 {x : Int32} {n : Nat} (h : n < 2 ^ 31 - 1) : x < nI (n + 1) ↔ x ≤ nI n := by
  rw [Int32.lt_iff_toInt_lt, Int32.le_iff_toInt_le, nI_toInt (by omega), nI_toInt (by omega)]
  omega
theorem over_eq {L g a b : Nat} {D M : am_D} (hR : rR D M) (hS : rSt M) (hQ : rQ L D M) (h150 : vR M ≤ 150) (hg : g < 4) (hb : b ≤ L) : dOver D g a b ↔ mOver M g a b := by
  unfold dOver mOver
  have e : ∀ s, s < b → (D (14 + g) s < nI (am_cnt (dAg D (nI s) (nI g)) (dR D) 0 1) ↔ M 5 (4 * s + g) ≤ nI (am_cnt (mAg M (nI s) (nI g)) (vR M) 0 0)) := fun s hs => by
    have hle := am_cnt_le (p := mAg M (nI s) (nI g)) (vR M) 0 0
    rw [ag_eq hR hS, hQ g hg s (by omega), show (1 : Nat) = 0 + 1 from rfl, am_cnt_s, i32_lt1 (by omega)]
  constructor
  · rintro ⟨s, h1, h2, h3⟩
    exact ⟨s, h1, h2, (e s h2).mp h3⟩
  · rintro ⟨s, h1, h2, h3⟩
    exact ⟨s, h1, h2, (e s h2).mpr h3⟩
theorem room_eq {L a b : Nat} {D M : am_D} {t : Int32} (hS : rS L D M) (hR : rR D M) (hSt : rSt M) (ht : dCl t) : dRoom D a b t ↔ ¬ mFull M a b t := by
  unfold dRoom mFull
  constructor
  · rintro h ⟨s, h1, h2, h3⟩
    have := h s h1 h2
    rw [go_eq hR hSt, cnt_eq hS ht] at this
    exact absurd this (Int32.not_lt.mpr h3)
  · intro h s h1 h2
    rw [go_eq hR hSt, cnt_eq hS ht]
    exact Int32.not_le.mp (fun z => h ⟨s, h1, h2, z⟩)
