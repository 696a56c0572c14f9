/-! ===== desk and reference: who sits and who leaves ===== -/
theorem bt_orw {x : Int32} {a b s : Nat} (hab : a ≤ b) (hb : b ≤ 29) : bt (x ||| wayI (nI a) (nI b)) s ↔ bt x s ∨ (a ≤ s ∧ s < b) := by
  rw [bt_or, bt_way hab hb]
theorem bt_off {x : Int32} {a b s : Nat} (hab : a ≤ b) (hb : b ≤ 29) (hs : s < 32) : bt (x &&& (wayI (nI a) (nI b) ^^^ -1)) s ↔ bt x s ∧ ¬ (a ≤ s ∧ s < b) := by
  rw [bt_and, bt_not hs, bt_way hab hb]
theorem mPut_row {M : am_D} {r r' s : Nat} {g : Nat → Int32} (hs : s < 29) : mPut M r 29 g 12 (29 * r' + s) = if r' = r then g s else M 12 (29 * r' + s) := by
  unfold mPut
  by_cases h : r' = r
  · subst h
    rw [if_pos ⟨rfl, by omega, by omega⟩, if_pos rfl, show 29 * r' + s - 29 * r' = s by omega]
  · rw [if_neg (fun z => by omega), if_neg h]
theorem mPut_12 {M : am_D} {r n j : Nat} {g : Nat → Int32} (h : n ≠ 12) : mPut M r 29 g n j = M n j := if_neg (fun z => h z.1)
theorem vR_put {M : am_D} {r : Nat} {g : Nat → Int32} : vR (mPut M r 29 g) = vR M := by
  unfold vR
  rw [mPut_12 (by omega)]
/-- nobody shares a seat -/
def rU (M : am_D) : Prop := ∀ r r' s q : Nat, r < vR M → r' < vR M → s < 29 → q < 80 → M 12 (29 * r + s) = nI q → M 12 (29 * r' + s) = nI q → r = r'
theorem rT_put {L r : Nat} {D D' M : am_D} {g : Nat → Int32} (hT : rT L D M) (hU : rU M) (hL : L ≤ 29) (hr : r < vR M) (hb : ∀ q, q < 80 → ∀ s, s < L → (bt (D' 5 q) s ↔ (bt (D 5 q) s ∧ ¬ M 12 (29 * r + s) = nI q) ∨ g s = nI q)) : rT L D' (mPut M r 29 g) := by
  intro q hq s hs
  rw [hb q hq s hs, hT q hq s hs, vR_put]
  constructor
  · rintro (⟨⟨r', h1, h2⟩, h3⟩ | h)
    · refine ⟨r', h1, ?_⟩
      rw [mPut_row (by omega), if_neg (fun z => h3 (by rw [← z]; exact h2))]
      exact h2
    · refine ⟨r, hr, ?_⟩
      rw [mPut_row (by omega), if_pos rfl]
      exact h
  · rintro ⟨r', h1, h2⟩
    rw [mPut_row (by omega)] at h2
    by_cases h : r' = r
    · rw [if_pos h] at h2
      exact Or.inr h2
    · rw [if_neg h] at h2
      exact Or.inl ⟨⟨r', h1, h2⟩, fun z => h (hU r' r s q h1 hr (by omega) (by omega) h2 z)⟩
theorem dLvF_bt {i : Nat} : ∀ (f a : Nat) (D : am_D), (∀ s, a ≤ s → s < a + f → D (sd_pn i) s = -1 ∨ ∃ q, q < 80 ∧ D (sd_pn i) s = nI q) → a + f ≤ 29 → ∀ q s, q < 80 → s < 32 → (bt (dLvF i f a D 5 q) s ↔ bt (D 5 q) s ∧ ¬ (a ≤ s ∧ s < a + f ∧ D (sd_pn i) s = nI q))
  | 0, a, D, _, _, q, s, _, _ => ⟨fun h => ⟨h, fun z => by omega⟩, fun h => h.1⟩
  | f + 1, a, D, hp, hf, q, s, hq, hs => by
    unfold dLvF
    have hpa := hp a (Nat.le_refl _) (by omega)
    by_cases h1 : D (sd_pn i) a = -1
    · rw [if_pos h1, dLvF_bt f (a + 1) D (fun s h1 h2 => hp s (by omega) (by omega)) (by omega) q s hq hs]
      constructor
      · rintro ⟨z1, z2⟩
        refine ⟨z1, fun ⟨y1, y2, y3⟩ => ?_⟩
        by_cases hsa : s = a
        · subst hsa
          rw [h1] at y3
          exact nI_m1 (by omega) y3.symm
        · exact z2 ⟨by omega, by omega, y3⟩
      · rintro ⟨z1, z2⟩
        exact ⟨z1, fun ⟨y1, y2, y3⟩ => z2 ⟨by omega, by omega, y3⟩⟩
    · obtain ⟨p, hp80, hpe⟩ := hpa.resolve_left h1
      rw [if_neg h1, hpe, nI_clamp (n := p) (by omega)]
      have ep : ∀ j, am_up D 5 p (D 5 p &&& (wayI (nI a) (nI (a + 1)) ^^^ -1)) (sd_pn i) j = D (sd_pn i) j := fun j => am_up_at (fun z => by have := z.1; unfold sd_pn at this; omega)
      rw [dLvF_bt f (a + 1) _ (fun s h1 h2 => by rw [ep]; exact hp s (by omega) (by omega)) (by omega) q s hq hs, ep]
      by_cases hqp : q = p
      · subst hqp
        rw [am_up_same, bt_off (by omega) (by omega) hs]
        constructor
        · rintro ⟨⟨z1, z2⟩, z3⟩
          refine ⟨z1, fun ⟨y1, y2, y3⟩ => ?_⟩
          by_cases hsa : s = a
          · exact z2 ⟨by omega, by omega⟩
          · exact z3 ⟨by omega, by omega, y3⟩
        · rintro ⟨z1, z2⟩
          refine ⟨⟨z1, fun z => z2 ⟨by omega, by omega, ?_⟩⟩, fun ⟨y1, y2, y3⟩ => z2 ⟨by omega, by omega, y3⟩⟩
          rw [show s = a by omega]
          exact hpe
      · rw [am_up_at (fun z => hqp z.2)]
        constructor
        · rintro ⟨z1, z2⟩
          refine ⟨z1, fun ⟨y1, y2, y3⟩ => ?_⟩
          by_cases hsa : s = a
          · rw [hsa, hpe, nI_inji (by omega) (by omega)] at y3
            exact hqp y3.symm
          · exact z2 ⟨by omega, by omega, y3⟩
        · rintro ⟨z1, z2⟩
          exact ⟨z1, fun ⟨y1, y2, y3⟩ => z2 ⟨by omega, by omega, y3⟩⟩
theorem dLv_bt {i a b q s : Nat} {D : am_D} (hp : ∀ s, a ≤ s → s < b → D (sd_pn i) s = -1 ∨ ∃ q, q < 80 ∧ D (sd_pn i) s = nI q) (hab : a ≤ b) (hb : b ≤ 29) (hq : q < 80) (hs : s < 32) : bt (dLv D i a b 5 q) s ↔ bt (D 5 q) s ∧ ¬ (a ≤ s ∧ s < b ∧ D (sd_pn i) s = nI q) := by
  have e : dLv D i a b 5 q = dLvF i (b - a) a D 5 q := dPl_ne (by unfold sd_pn; omega)
  rw [e, dLvF_bt (b - a) a D (fun s h1 h2 => hp s h1 (by omega)) (by omega) q s hq hs, show a + (b - a) = b by omega]
theorem dSit_bt {i a b q q' s : Nat} {D : am_D} (hab : a ≤ b) (hb : b ≤ 29) (hq : q < 80) : bt (dSit D i (nI q) a b 5 q') s ↔ bt (D 5 q') s ∨ (q' = q ∧ a ≤ s ∧ s < b) := by
  unfold dSit
  rw [if_neg (nI_m1 (by omega)), nI_clamp (n := q) (by omega)]
  by_cases h : q' = q
  · subst h
    rw [am_up_same, bt_orw hab hb]
    exact ⟨fun z => z.elim Or.inl (fun y => Or.inr ⟨rfl, y⟩), fun z => z.elim Or.inl (fun y => Or.inr y.2)⟩
  · rw [am_up_at (fun z => h z.2), dPl_ne (by unfold sd_pn; omega)]
    exact ⟨Or.inl, fun z => z.elim id (fun y => absurd y.1 h)⟩
