/-! ===== desk and reference: the sweep ===== -/
theorem mCoF_c {M M' : am_D} {q : Nat} (h : ∀ j, M' 1 j = M 1 j) : ∀ f c, mCoF M' q f c = mCoF M q f c
  | 0, _ => rfl
  | f + 1, c => by
    have e : vF M' (c + 1) = vF M (c + 1) := by
      unfold vF
      rw [h]
    unfold mCoF
    rw [e, mCoF_c h f (c + 1)]
theorem mCo_c {M M' : am_D} {q : Nat} (h : ∀ j, M' 1 j = M 1 j) : mCo M' q = mCo M q := mCoF_c h 8 0
theorem mTold_c {M M' : am_D} {x : Int32} (h : ∀ j, M' 1 j = M 1 j) : mTold M' x = mTold M x := by
  unfold mTold
  rw [mCo_c h, h]
theorem mCl_c {M M' : am_D} {q : Nat} {t : Int32} (h : ∀ j, M' 1 j = M 1 j ∧ M' 2 j = M 2 j ∧ M' 3 j = M 3 j) : mCl M' q t ↔ mCl M q t := by
  unfold mCl
  rw [mCo_c (fun j => (h j).1), (h _).2.1, (h _).2.2]
/-- a seat's class -/
def mK (M : am_D) (q : Nat) : Int32 := M 2 (mCo M q)
theorem zmK {M M' : am_D} {q : Nat} (h1 : ∀ j, M' 1 j = M 1 j) (h2 : ∀ j, M' 2 j = M 2 j) : mK M' q = mK M q := by
  unfold mK
  rw [mCo_c h1, h2]
theorem rS.eq {L : Nat} {D D' M M' : am_D} (h : rS L D M) (hD : ∀ n j, n = 1 ∨ n = 2 ∨ n = 3 ∨ n = 4 ∨ n = 7 ∨ n = 8 → D' n j = D n j) (hM : ∀ n j, n = 1 ∨ n = 2 ∨ n = 3 ∨ n = 4 ∨ n = 0 ∧ (j = 1 ∨ j = 2) → M' n j = M n j) : rS L D' M' := by
  have eL : vL M' = vL M := by
    unfold vL
    rw [hM 0 1 (by omega)]
  have eC : vC M' = vC M := by
    unfold vC
    rw [hM 0 2 (by omega)]
  have e1 : ∀ j, M' 1 j = M 1 j := fun j => hM 1 j (by omega)
  have eF : ∀ c, vF M' c = vF M c := fun c => by
    unfold vF
    rw [e1]
  have eK : dK D' = dK D := by
    unfold dK
    rw [hD 1 7 (by omega)]
  have edC : dC D' = dC D := by
    unfold dC
    rw [hD 1 1 (by omega)]
  obtain ⟨h1, h2, h3, h4, h5, h6, h7, h8, h9, h10⟩ := h
  refine ⟨by rw [eL]; exact h1, by rw [eK, eC]; exact h2, fun c hc => ?_, fun c hc => ?_, fun c hc => ?_, by rw [edC, eC, eF]; exact h6, fun q hq => ?_, fun q hq => ?_, fun q => ?_, fun c hc => ?_⟩
  · rw [hD 8 c (by omega), e1]
    exact h3 c (by omega)
  · rw [hD 7 c (by omega), hM 3 c (by omega)]
    exact h4 c (by omega)
  · rw [hM 3 c (by omega)]
    exact h5 c (by omega)
  · rw [hD 2 q (by omega), mCo_c e1, hM 3 _ (by omega), hM 2 _ (by omega)]
    exact h7 q (by omega)
  · rw [hD 3 q (by omega), mTold_c e1]
    exact h8 q (by omega)
  · rw [hD 4 q (by omega), hM 4 q (by omega)]
    exact h9 q
  · rw [hM 2 c (by omega)]
    exact h10 c (by omega)
theorem rK.eq {L : Nat} {D D' M M' : am_D} (h : rK L D M) (h1 : D' 1 1 = D 1 1) (h2 : ∀ q, D' 2 q = D 2 q) (h6 : ∀ q, D' 6 q = D 6 q) (hB : M' 0 17 = M 0 17) (hM : ∀ n j, n = 14 ∨ n = 15 ∨ n = 16 → M' n j = M n j) : rK L D' M' := by
  have edC : dC D' = dC D := by
    unfold dC
    rw [h1]
  have eB : vB M' = vB M := by
    unfold vB
    rw [hB]
  intro q hq ht s hs
  rw [h6, eB, h q hq (by rw [← h2, ← edC]; exact ht) s hs]
  unfold mBk
  constructor <;> rintro ⟨b, z1, z2⟩ <;> refine ⟨b, z1, ?_⟩
  · rw [hM 14 b (by omega), hM 15 b (by omega), hM 16 b (by omega)]
    exact z2
  · rw [hM 14 b (by omega), hM 15 b (by omega), hM 16 b (by omega)] at z2
    exact z2
theorem rT.eq {L : Nat} {D D' M M' : am_D} (h : rT L D M) (h5 : ∀ q, q < 80 → D' 5 q = D 5 q) (hR : vR M' = vR M) (hM : ∀ r, r < vR M → ∀ s, s < 29 → M' 12 (29 * r + s) = M 12 (29 * r + s)) (hL : L ≤ 29) : rT L D' M' := by
  intro q hq s hs
  rw [h5 q (by omega), h q (by omega) s hs, hR]
  constructor <;> rintro ⟨r, z1, z2⟩ <;> refine ⟨r, z1, ?_⟩
  · rw [hM r z1 s (by omega)]
    exact z2
  · rw [hM r z1 s (by omega)] at z2
    exact z2
theorem rU.eq {M M' : am_D} (h : rU M) (hR : vR M' = vR M) (hM : ∀ r, r < vR M → ∀ s, s < 29 → M' 12 (29 * r + s) = M 12 (29 * r + s)) : rU M' := by
  intro r r' s q h1 h2 h3 h4 h5 h6
  rw [hR] at h1 h2
  rw [hM r h1 s h3] at h5
  rw [hM r' h2 s h3] at h6
  exact h r r' s q h1 h2 h3 h4 h5 h6
theorem rU_put {M : am_D} {r : Nat} {g : Nat → Int32} (h : rU M) (hg : ∀ s, s < 29 → ∀ q, q < 80 → g s = nI q → ∀ r', r' < vR M → r' ≠ r → ¬ M 12 (29 * r' + s) = nI q) : rU (mPut M r 29 g) := by
  intro r1 r2 s q h1 h2 h3 h4 h5 h6
  rw [vR_put] at h1 h2
  rw [mPut_row h3] at h5 h6
  by_cases z1 : r1 = r
  · by_cases z2 : r2 = r
    · omega
    · rw [if_pos z1] at h5
      rw [if_neg z2] at h6
      exact absurd h6 (hg s h3 q h4 h5 r2 h2 z2)
  · rw [if_neg z1] at h5
    by_cases z2 : r2 = r
    · rw [if_pos z2] at h6
      exact absurd h5 (hg s h3 q h4 h6 r1 h1 z1)
    · rw [if_neg z2] at h6
      exact h r1 r2 s q h1 h2 h3 h4 h5 h6
theorem mBestF_s {M : am_D} {a b : Nat} {t one : Int32} (n : Nat) : ∀ (f q : Nat) (fo le : Int32), q + f ≤ n → (fo = -1 ∨ ∃ q', q' < n ∧ fo = nI q' ∧ mCl M q' t ∧ mFT M (nI q') a b one) → mBestF M a b t one f q fo le = -1 ∨ ∃ q', q' < n ∧ mBestF M a b t one f q fo le = nI q' ∧ mCl M q' t ∧ mFT M (nI q') a b one
  | 0, _, _, _, _, h => h
  | f + 1, q, fo, le, hn, h => by
    unfold mBestF
    by_cases hz : mCl M q t ∧ mFT M (nI q) a b one ∧ (fo < 0 ∨ nI (mRun M (nI q) one (vL M - b) b) < le)
    · rw [if_pos hz]
      exact mBestF_s n f (q + 1) _ _ (by omega) (Or.inr ⟨q, by omega, rfl, hz.1, hz.2.1⟩)
    · rw [if_neg hz]
      exact mBestF_s n f (q + 1) _ _ (by omega) h
theorem mBest_s {M : am_D} {a b : Nat} {t one : Int32} : mBest M a b t one = -1 ∨ ∃ q, q < vF M (vC M) ∧ mBest M a b t one = nI q ∧ mCl M q t ∧ mFT M (nI q) a b one := mBestF_s (vF M (vC M)) _ 0 (-1) 0 (by omega) (Or.inl rfl)
/-- ways and classes of rides are alike -/
def rV (L : Nat) (D M : am_D) : Prop := dR D = vR M ∧ mG M ∧ mGR M ∧ dC D ≤ 80 ∧ ∀ i, i < vR M → D (sd_rn i) 2 = M 7 i ∧ D (sd_rn i) 3 = M 8 i ∧ D (sd_rn i) 4 = M 9 i
theorem rV.eq {L : Nat} {D D' M M' : am_D} (h : rV L D M) (h1 : D' 1 1 = D 1 1) (h4 : D' 0 4 = D 0 4) (hr : ∀ i j, D' (sd_rn i) j = D (sd_rn i) j) (hM : mEq M M') : rV L D' M' := by
  obtain ⟨z1, z2, z3, z4, z5⟩ := h
  refine ⟨?_, hM.G z2, hM.GR z3, ?_, fun i hi => ?_⟩
  · rw [hM.R, ← z1]
    unfold dR
    rw [h4]
  · unfold dC at *
    rw [h1]
    exact z4
  · rw [hr, hr, hr, hM 7 i (by decide) (by decide), hM 8 i (by decide) (by decide), hM 9 i (by decide) (by decide)]
    exact z5 i (by rw [← hM.R]; exact hi)
theorem rV.w {L i : Nat} {D M : am_D} (h : rV L D M) (hi : i < vR M) : D (sd_rn i) 2 = nI (va M i) ∧ D (sd_rn i) 3 = nI (vb M i) ∧ D (sd_rn i) 4 = M 9 i ∧ da D i = va M i ∧ db D i = vb M i ∧ va M i < vb M i ∧ vb M i ≤ vL M := by
  obtain ⟨z1, z2, z3, z4, z5⟩ := h
  obtain ⟨y1, y2, y3, y4⟩ := z3 i hi
  obtain ⟨x1, x2, x3⟩ := z5 i hi
  have hL := z2.2.2.1
  refine ⟨x1.trans y1, x2.trans y2, x3, ?_, ?_, y3, y4⟩
  · unfold da
    rw [x1]
    rfl
  · unfold db
    rw [x2]
    rfl
/-- best of one who stands -/
theorem bst_eq {L i : Nat} {D M : am_D} (hS : rS L D M) (hT : rT L D M) (hK : rK L D M) (hV : rV L D M) (hi : i < vR M) (ht : dCl (M 9 i)) (h0 : ∀ s, s < 29 → M 12 (29 * i + s) = -1) : dBest L D i = mBest M (va M i) (vb M i) (M 9 i) (nI i) := by
  obtain ⟨w1, w2, w3, w4, w5, w6, w7⟩ := hV.w hi
  have hL : L ≤ 29 := by rw [← hS.1]; exact hV.2.1.2.2.1
  have h150 : vR M ≤ 150 := hV.2.1.2.2.2.2.2.2.1
  unfold dBest mBest
  rw [w1, w2, w3, hS.2.2.2.2.2.1]
  refine best_eq hS hT hK (fun r hr he s hs => ?_) hL h150 hV.2.2.2.1 ht (by omega) (by rw [← hS.1]; exact w7) _ _ _ _ (by rw [hS.2.2.2.2.2.1]; omega) (Or.inl rfl)
  rw [nI_inji (by omega) (by omega)] at he
  rw [he]
  exact h0 s hs
theorem mSitG_e {M : am_D} {i s : Nat} {p : Int32} (hV : mGR M) (hL : vL M ≤ 29) (hi : i < vR M) (hs : s < 29) : mSitG M i p s = if va M i ≤ s ∧ s < vb M i then p else -1 := by
  obtain ⟨y1, y2, y3, y4⟩ := hV i hi
  unfold mSitG
  rw [y1, y2]
  by_cases hz : va M i ≤ s ∧ s < vb M i
  · rw [if_pos hz, if_pos ⟨(nI_lei (by omega) (by omega)).mpr hz.1, (nI_lti (by omega) (by omega)).mpr hz.2⟩]
  · rw [if_neg hz, if_neg (fun z => hz ⟨(nI_lei (by omega) (by omega)).mp z.1, (nI_lti (by omega) (by omega)).mp z.2⟩)]
/-- taking a free seat for the whole way -/
theorem sit_T {L i q : Nat} {D D' M : am_D} (hT : rT L D M) (hU : rU M) (hV : rV L D M) (hL : vL M = L) (hi : i < vR M) (h0 : ∀ s, s < 29 → M 12 (29 * i + s) = -1) (hq : q < 80) (hb : ∀ q' s, bt (D' 5 q') s ↔ bt (D 5 q') s ∨ (q' = q ∧ va M i ≤ s ∧ s < vb M i)) : rT L D' (mSit M i (nI q)) := by
  obtain ⟨w1, w2, w3, w4, w5, w6, w7⟩ := hV.w hi
  have hL29 := hV.2.1.2.2.1
  obtain ⟨y1, y2, -, -⟩ := hV.2.2.1 i hi
  refine rT_put hT hU (by omega) hi (fun q' hq' s hs => ?_)
  have hq80 := hV.2.2.2.1
  rw [hb, h0 s (by omega)]
  have e1 := mSitG_e (p := nI q) hV.2.2.1 (by omega) hi (show s < 29 by omega)
  rw [e1]
  constructor
  · rintro (h | ⟨rfl, h2, h3⟩)
    · exact Or.inl ⟨h, fun z => nI_m1 (by omega) z.symm⟩
    · exact Or.inr (if_pos ⟨h2, h3⟩)
  · rintro (⟨h, -⟩ | h)
    · exact Or.inl h
    · by_cases hz : va M i ≤ s ∧ s < vb M i
      · rw [if_pos hz, nI_inji (by omega) (by omega)] at h
        exact Or.inr ⟨h.symm, hz.1, hz.2⟩
      · rw [if_neg hz] at h
        exact absurd h.symm (nI_m1 (by omega))
theorem mSit_row {M : am_D} {i r s : Nat} {p : Int32} (hV : mGR M) (hL : vL M ≤ 29) (hi : i < vR M) (hs : s < 29) : mSit M i p 12 (29 * r + s) = if r = i then (if va M i ≤ s ∧ s < vb M i then p else -1) else M 12 (29 * r + s) := by
  obtain ⟨y1, y2, y3, y4⟩ := hV i hi
  have e1 := mSitG_e (p := p) hV hL hi hs
  unfold mSit
  rw [mPut_row hs, e1]
theorem sit_U {i q : Nat} {M : am_D} (hU : rU M) (hV : mGR M) (h150 : vR M ≤ 150) (hL : vL M ≤ 29) (hi : i < vR M) (hq : q < 80) (hf : mFT M (nI q) (va M i) (vb M i) (nI i)) : rU (mSit M i (nI q)) := by
  obtain ⟨y1, y2, y3, y4⟩ := hV i hi
  refine rU_put hU (fun s hs q' hq' hg r' hr' hn => ?_)
  have e1 := mSitG_e (p := nI q) hV (by omega) hi (show s < 29 by omega)
  rw [e1] at hg
  by_cases hz : va M i ≤ s ∧ s < vb M i
  · rw [if_pos hz] at hg
    intro h
    refine (hf s hz.1 hz.2).2 r' hr' ⟨?_, by rw [h, hg]⟩
    rw [nI_inji (by omega) (by omega)]
    exact hn
  · rw [if_neg hz] at hg
    exact absurd hg.symm (nI_m1 (by omega))
