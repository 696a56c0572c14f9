/-! ===== desk and reference: seats that are free ===== -/
/-- coaches and seats are alike -/
def rS (L : Nat) (D M : am_D) : Prop := vL M = L ∧ dK D = vC M ∧ (∀ c, c ≤ vC M → D 8 c = M 1 c) ∧ (∀ c, c < vC M → (D 7 c = 0 ↔ ¬ M 3 c = 0)) ∧ (∀ c, vC M ≤ c → M 3 c = 0) ∧ dC D = vF M (vC M) ∧ (∀ q, q < dC D → D 2 q = if M 3 (mCo M q) = 0 then M 2 (mCo M q) else -1) ∧ (∀ q, q < dC D → D 3 q = mTold M (nI q)) ∧ (∀ q, D 4 q = M 4 q) ∧ ∀ c, c < vC M → M 2 c = 0 ∨ M 2 c = 1
/-- what is taken is alike -/
def rT (L : Nat) (D M : am_D) : Prop := ∀ q, q < 80 → ∀ s, s < L → (bt (D 5 q) s ↔ ∃ r, r < vR M ∧ M 12 (29 * r + s) = nI q)
/-- what is kept is alike -/
def rK (L : Nat) (D M : am_D) : Prop := ∀ q, q < 80 → (dC D ≤ q ∨ ¬ D 2 q = -1) → ∀ s, s < L → (bt (D 6 q) s ↔ ∃ b, b < vB M ∧ mBk M (nI q) (nI s) b)
/-- the one that is left out has no seat -/
def rO (M : am_D) (one : Int32) : Prop := ∀ r, r < vR M → nI r = one → ∀ s, s < 29 → M 12 (29 * r + s) = -1
theorem rO_m1 {M : am_D} (h : vR M ≤ 150) : rO M (-1) := fun r hr he => absurd he (nI_m1 (by omega))
theorem rS.cl {L q : Nat} {D M : am_D} {t : Int32} (h : rS L D M) (hq : q < dC D) (ht : dCl t) : mCl M q t ↔ D 2 q = t := by
  obtain ⟨-, -, -, -, -, -, h7, -⟩ := h
  rw [h7 q hq]
  unfold mCl
  by_cases hg : M 3 (mCo M q) = 0
  · rw [if_pos hg]
    exact ⟨fun z => z.2, fun z => ⟨hg, z⟩⟩
  · rw [if_neg hg]
    exact ⟨fun z => absurd z.1 hg, fun z => absurd (show t < 0 by rw [← z]; decide) ht.1⟩
theorem dCl_m1 {t : Int32} (ht : dCl t) : ¬ t = -1 := fun z => ht.1 (by rw [z]; decide)
theorem fr_eq {L q s : Nat} {D M : am_D} {one : Int32} (hT : rT L D M) (hK : rK L D M) (hO : rO M one) (hL : L ≤ 29) (h150 : vR M ≤ 150) (hq : q < dC D) (hq80 : dC D ≤ 80) (ht : ¬ D 2 q = -1) (hs : s < L) : mFr M (nI q) s one ↔ ¬ bt (D 5 q) s ∧ ¬ bt (D 6 q) s := by
  rw [hT q (by omega) s hs, hK q (by omega) (Or.inr ht) s hs]
  unfold mFr mAt
  constructor
  · rintro ⟨h1, h2⟩
    refine ⟨fun ⟨r, z1, z2⟩ => h2 r z1 ⟨fun z => ?_, z2⟩, fun ⟨b, z1, z2⟩ => h1 b z1 z2⟩
    rw [hO r z1 z s (by omega)] at z2
    exact nI_m1 (by omega) z2.symm
  · rintro ⟨h1, h2⟩
    exact ⟨fun b z1 z2 => h2 ⟨b, z1, z2⟩, fun r z1 z2 => h1 ⟨r, z1, z2.2⟩⟩
theorem ft_eq {L q a b : Nat} {D M : am_D} {one : Int32} (hT : rT L D M) (hK : rK L D M) (hO : rO M one) (hL : L ≤ 29) (h150 : vR M ≤ 150) (hq : q < dC D) (hq80 : dC D ≤ 80) (ht : ¬ D 2 q = -1) (hab : a ≤ b) (hb : b ≤ L) : mFT M (nI q) a b one ↔ dFree D q (wayI (nI a) (nI b)) := by
  unfold mFT dFree
  rw [way_free hab (by omega)]
  constructor
  · intro h s h1 h2
    obtain ⟨z1, z2⟩ := (fr_eq hT hK hO hL h150 hq hq80 ht (by omega)).mp (h s h1 h2)
    rw [bt_or]
    exact fun z => z.elim z1 z2
  · intro h s h1 h2
    have := h s h1 h2
    rw [bt_or] at this
    exact (fr_eq hT hK hO hL h150 hq hq80 ht (by omega)).mpr ⟨fun z => this (Or.inl z), fun z => this (Or.inr z)⟩
theorem run_at {M : am_D} {p one : Int32} : ∀ (f s : Nat), mRun M p one f s ≤ f ∧ (∀ i, i < mRun M p one f s → mFr M p (s + i) one) ∧ (mRun M p one f s = f ∨ ¬ mFr M p (s + mRun M p one f s) one)
  | 0, s => ⟨Nat.le_refl _, fun i hi => absurd hi (by unfold mRun; omega), Or.inl rfl⟩
  | f + 1, s => by
    obtain ⟨h1, h2, h3⟩ := run_at (M := M) (p := p) (one := one) f (s + 1)
    by_cases hf : mFr M p s one
    · rw [mRun_t hf]
      refine ⟨by omega, fun i hi => ?_, ?_⟩
      · by_cases h0 : i = 0
        · rw [h0]
          exact hf
        · have := h2 (i - 1) (by omega)
          rwa [show s + 1 + (i - 1) = s + i by omega] at this
      · rcases h3 with h3 | h3
        · exact Or.inl (by omega)
        · refine Or.inr ?_
          rwa [show s + (mRun M p one f (s + 1) + 1) = s + 1 + mRun M p one f (s + 1) by omega]
    · rw [mRun_f hf]
      exact ⟨by omega, fun i hi => absurd hi (by omega), Or.inr hf⟩
theorem sp_eq {L q s : Nat} {D M : am_D} {one : Int32} (hT : rT L D M) (hK : rK L D M) (hO : rO M one) (hL : L ≤ 29) (h150 : vR M ≤ 150) (hq : q < dC D) (hq80 : dC D ≤ 80) (ht : ¬ D 2 q = -1) (hs : s ≤ L) : dSp L D (nI s) q = nI (mRun M (nI q) one (L - s) s) := by
  obtain ⟨h1, h2, h3⟩ := run_at (M := M) (p := nI q) (one := one) (L - s) s
  refine dSp_eq hL hs (by omega) (fun i hi => (fr_eq hT hK hO hL h150 hq hq80 ht (by omega)).mp (h2 i hi)) ?_
  by_cases he : s + mRun M (nI q) one (L - s) s = L
  · exact Or.inl he
  · refine Or.inr ?_
    have h4 := h3.resolve_left (by omega)
    rw [fr_eq hT hK hO hL h150 hq hq80 ht (by omega)] at h4
    by_cases h5 : bt (D 5 q) (s + mRun M (nI q) one (L - s) s)
    · exact Or.inl h5
    · exact Or.inr (Classical.not_not.mp (fun z => h4 ⟨h5, z⟩))
