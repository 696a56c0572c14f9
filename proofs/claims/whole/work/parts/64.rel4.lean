/-! ===== desk and reference: rides ===== -/
theorem am_cnt_c {p q : Nat → Prop} : ∀ (f i acc : Nat), (∀ j, i ≤ j → j < i + f → (p j ↔ q j)) → am_cnt p f i acc = am_cnt q f i acc
  | 0, _, _, _ => rfl
  | f + 1, i, acc, h => by
    have h1 := h i (Nat.le_refl _) (by omega)
    by_cases hp : p i
    · rw [am_cnt_t hp, am_cnt_t (h1.mp hp)]
      exact am_cnt_c f (i + 1) _ (fun j h2 h3 => h j (by omega) (by omega))
    · rw [am_cnt_f hp, am_cnt_f (fun z => hp (h1.mpr z))]
      exact am_cnt_c f (i + 1) _ (fun j h2 h3 => h j (by omega) (by omega))
theorem am_fst_c {p q : Nat → Prop} : ∀ (f i : Nat), (∀ j, i ≤ j → j < i + f → (p j ↔ q j)) → am_fst p f i = am_fst q f i
  | 0, _, _ => rfl
  | f + 1, i, h => by
    have h1 := h i (Nat.le_refl _) (by omega)
    by_cases hp : p i
    · rw [am_fst_t hp, am_fst_t (h1.mp hp)]
    · rw [am_fst_f hp, am_fst_f (fun z => hp (h1.mpr z))]
      exact am_fst_c f (i + 1) (fun j h2 h3 => h j (by omega) (by omega))
/-- the rides' words are alike -/
def rR (D M : am_D) : Prop := dR D = vR M ∧ ∀ i, i < vR M → D (sd_rn i) 2 = M 7 i ∧ D (sd_rn i) 3 = M 8 i ∧ D (sd_rn i) 4 = M 9 i ∧ D (sd_rn i) 5 = M 10 i ∧ D (sd_rn i) 6 = M 6 i ∧ D (sd_rn i) 7 = M 11 i
/-- the rides' places are alike -/
def rP (L : Nat) (D M : am_D) : Prop := ∀ i, i < vR M → ∀ s, s < L → D (sd_pn i) s = M 12 (29 * i + s)
/-- states are states -/
def rSt (M : am_D) : Prop := ∀ r, r < vR M → M 6 r = 0 ∨ M 6 r = 1 ∨ M 6 r = 2 ∨ M 6 r = 3
theorem rSt.pos {M : am_D} {r : Nat} (h : rSt M) (hr : r < vR M) : 0 < M 6 r ↔ ¬ M 6 r = 0 := by
  rcases h r hr with z | z | z | z <;> rw [z] <;> decide
theorem go_eq {D M : am_D} {s t : Int32} (hR : rR D M) (hS : rSt M) : am_cnt (dGo D s t) (dR D) 0 0 = am_cnt (mGo M s t) (vR M) 0 0 := by
  rw [hR.1]
  refine am_cnt_c _ _ _ (fun j _ hj => ?_)
  obtain ⟨h2, h3, h4, h5, h6, h7⟩ := hR.2 j (by omega)
  unfold dGo mGo
  rw [h2, h3, h4, h6, hS.pos (by omega)]
theorem ag_eq {D M : am_D} {s g : Int32} {n : Nat} (hR : rR D M) (hS : rSt M) : am_cnt (dAg D s g) (dR D) 0 n = am_cnt (mAg M s g) (vR M) 0 n := by
  rw [hR.1]
  refine am_cnt_c _ _ _ (fun j _ hj => ?_)
  obtain ⟨h2, h3, h4, h5, h6, h7⟩ := hR.2 j (by omega)
  unfold dAg mAg
  rw [h2, h3, h5, h6, hS.pos (by omega)]
theorem cnt_eq {L : Nat} {D M : am_D} {t : Int32} (hS : rS L D M) (ht : dCl t) : dCnt D 0 t = am_cnt (fun q => mCl M q t) (vF M (vC M)) 0 0 := by
  unfold dCnt
  rw [← hS.2.2.2.2.2.1]
  refine am_cnt_c _ _ _ (fun j _ hj => ?_)
  rw [hS.cl (by omega) ht]
  unfold dFree
  rw [Int32.and_zero]
  exact ⟨fun z => z.1, fun z => ⟨z, rfl⟩⟩
theorem liv_eq {D M : am_D} {r : Int32} (hR : rR D M) (hS : rSt M) (h4 : D 0 4 = nI (dR D)) (h8 : M 0 8 = nI (vR M)) (h150 : vR M ≤ 150) : dLiv D r ↔ mLiv M r := by
  unfold dLiv mLiv
  rw [h4, h8, hR.1]
  constructor
  · rintro ⟨a, b, c⟩
    obtain ⟨j, hj, rfl, -, hj2, -⟩ := pk_mu a b (by omega)
    refine ⟨a, b, ?_⟩
    rw [hj2] at c ⊢
    rw [(hR.2 j hj).2.2.2.2.1] at c
    exact (hS.pos hj).mpr c
  · rintro ⟨a, b, c⟩
    obtain ⟨j, hj, rfl, -, hj2, -⟩ := pk_mu a b (by omega)
    refine ⟨a, b, ?_⟩
    rw [hj2] at c ⊢
    rw [(hR.2 j hj).2.2.2.2.1]
    exact (hS.pos hj).mp c
