/-! ===== desk and reference: wish ===== -/
theorem mStd_row {M : am_D} {r k s : Nat} (hs : s < 29) : mStd M r 12 (29 * k + s) = if k = r then -1 else M 12 (29 * k + s) := by
  unfold mStd
  rw [mPut_row hs]
  rfl
theorem mStd_ne {M : am_D} {r n j : Nat} (h : n ≠ 12) : mStd M r n j = M n j := mPut_ne h
theorem mSit_std {M : am_D} {r : Nat} {p : Int32} : mSit (mStd M r) r p = mSit M r p := by
  have e : mSitG (mStd M r) r p = mSitG M r p := by
    funext s
    unfold mSitG
    rw [mStd_ne (by omega), mStd_ne (by omega)]
  unfold mSit
  rw [e]
  funext n j
  unfold mStd mPut
  by_cases h : n = 12 ∧ 29 * r ≤ j ∧ j < 29 * r + 29
  · rw [if_pos h, if_pos h]
  · rw [if_neg h, if_neg h, if_neg h]
theorem lv_rel {L A r : Nat} {D M : am_D} (h : Rel L A D M none) (hr : r < vR M) : Rel L A (dLv D r (va M r) (vb M r)) (mStd M r) (some r) := by
  obtain ⟨n1, n2, n3, n4, n5, n6, n7, n8, n9⟩ := h.n
  have em : ∀ n j, n ≠ 12 → mStd M r n j = M n j := fun n j z => mStd_ne z
  have ed : ∀ n j, n ≠ 5 → n ≠ sd_pn r → dLv D r (va M r) (vb M r) n j = D n j := fun n j z1 z2 => dLv_ne z1 z2
  have er : ∀ k j, dLv D r (va M r) (vb M r) (sd_rn k) j = D (sd_rn k) j := fun k j => ed _ j (by unfold sd_rn; omega) (sd_ne k r)
  have eR : vR (mStd M r) = vR M := zvR (em 0 8 (by omega))
  have eF : vF M (vC M) ≤ vF (mStd M r) (vC (mStd M r)) := by
    rw [zvF (fun j => em 1 j (by omega)), zvC (em 0 2 (by omega))]
    exact Nat.le_refl _
  have mi : ∀ s, s < 29 → mStd M r 12 (29 * r + s) = -1 := fun s hs => by rw [mStd_row hs, if_pos rfl]
  have mo : ∀ k, k ≠ r → ∀ s, s < 29 → mStd M r 12 (29 * k + s) = M 12 (29 * k + s) := fun k hk s hs => by rw [mStd_row hs, if_neg hk]
  refine h.ride (h.G.c (em 0 1 (by omega)) (em 0 2 (by omega)) (em 0 8 (by omega)) (em 0 17 (by omega)) (fun j => em 1 j (by omega))) (mGR_of h.GR eR (zvL (em 0 1 (by omega))) (fun j => em 7 j (by omega)) (fun j => em 8 j (by omega))) h.O.lv ?_ (h.R.eq (ed 0 4 (by omega) (by unfold sd_pn; omega)) (fun i _ j _ => er i j) (em 0 8 (by omega)) (fun i _ n z1 z2 => em n i (by omega))) ?_ ((ed 0 6 (by omega) (by unfold sd_pn; omega)).trans (h.m.trans (em 0 21 (by omega)).symm)) ?_ (fun n j z1 z2 z3 _ => ed n j z3 (by unfold sd_pn; omega)) (fun n j z => em n j (by omega))
  · refine rT_new (r := r) h.T h.I.u n3 (by omega) (fun k _ => by rw [eR]) (fun k _ hn s hs => mo k hn s hs) (fun q hq s hs => ?_)
    rw [lv_bt h hr hq hs, mi s (by omega)]
    exact ⟨fun z => Or.inl ⟨z.1, fun y => z.2 y.2⟩, fun z => z.elim (fun y => ⟨y.1, fun w => y.2 ⟨hr, w⟩⟩) (fun y => absurd y.symm (nI_m1 (by omega)))⟩
  · refine rP_new (r := r) h.P n3 (fun k hk _ => by rw [← eR]; exact hk) (fun k hk hn => ⟨fun s _ => by rw [dLv_pn, if_neg (fun y => hn y.1)], fun s hs => mo k hn s hs⟩) (fun s hs => ?_)
    rw [dLv_pn, mi s (by omega)]
    by_cases hz : va M r ≤ s ∧ s < vb M r
    · rw [if_pos ⟨rfl, hz⟩]
    · rw [if_neg (fun y => hz y.2), h.P r hr s hs]
      exact (h.I.w r hr s (by omega)).resolve_right (fun y => hz ⟨y.1, y.2.1⟩)
  · exact rI_new (r := r) h.I (fun k hk _ => by rw [← eR]; exact hk) eF (fun q _ => zmK (fun j => em 1 j (by omega)) (fun j => em 2 j (by omega))) (fun k hk hn => ⟨em 6 k (by omega), em 7 k (by omega), em 8 k (by omega), em 9 k (by omega), fun s hs => mo k hn s hs⟩) (by rw [em 9 r (by omega)]; exact h.I.cl r hr) (by rw [em 6 r (by omega)]; exact h.I.st r hr) (fun s hs => Or.inl (mi s hs)) (fun s hs q hq z => by rw [mi s hs] at z; exact absurd z.symm (nI_m1 (by omega))) (fun _ => mi) (fun _ z => absurd rfl z) (fun _ => mi) (fun k hk hn => ⟨fun w => absurd (Option.some.inj w) hn, fun w => absurd w (by simp)⟩)
/-- a ride's state is made 2 -/
theorem fix_I {M : am_D} {r : Nat} {x : Option Nat} (h : rI M x) (hx : x = none ∨ x = some r) (hr : r < vR M) : rI (am_up M 6 r 2) none := by
  have em : ∀ n j, ¬ (n = 6 ∧ j = r) → am_up M 6 r 2 n j = M n j := fun n j z => am_up_at z
  have m6 : am_up M 6 r 2 6 r = 2 := am_up_same
  generalize am_up M 6 r 2 = M' at *
  have eR : vR M' = vR M := zvR (em 0 8 (by omega))
  have eF : vF M (vC M) ≤ vF M' (vC M') := by
    rw [zvF (fun j => em 1 j (by omega)), zvC (em 0 2 (by omega))]
    exact Nat.le_refl _
  refine rI_new (r := r) h (fun k hk _ => by rw [← eR]; exact hk) eF (fun q _ => zmK (fun j => em 1 j (by omega)) (fun j => em 2 j (by omega))) (fun k hk hn => ⟨em 6 k (by omega), em 7 k (by omega), em 8 k (by omega), em 9 k (by omega), fun s hs => em 12 _ (by omega)⟩) (by rw [em 9 r (by omega)]; exact h.cl r hr) (Or.inr (Or.inr (Or.inl m6))) (fun s hs => ?_) (fun s hs q hq z r' hr' hn w => ?_) (fun z => by rw [m6] at z; exact absurd z (by decide)) (fun z => by rw [m6] at z; exact absurd z (by decide)) (fun z => absurd z (by simp)) (fun k hk hn => ?_)
  · rw [em 12 _ (by omega), zva (em 7 r (by omega)), zvb (em 8 r (by omega))]
    exact (h.w r hr s hs).imp id (fun y => ⟨y.1, y.2.1, y.2.2.imp (fun q u => ⟨by omega, u.2⟩)⟩)
  · rw [em 12 _ (by omega)] at z
    exact hn (h.u r' r s q hr' hr hs hq w z)
  · rcases hx with rfl | rfl
    · exact Iff.rfl
    · exact ⟨fun z => absurd z (by simp), fun z => absurd (Option.some.inj z) hn⟩
theorem fix_rel {L A r : Nat} {D M : am_D} (h : Rel L A D M none) (hr : r < vR M) : Rel L A (am_up D (sd_rn r) 6 2) (am_up M 6 r 2) none := by
  obtain ⟨n1, n2, n3, n4, n5, n6, n7, n8, n9⟩ := h.n
  have hI := fix_I h.I (Or.inl rfl) hr
  have em : ∀ n j, ¬ (n = 6 ∧ j = r) → am_up M 6 r 2 n j = M n j := fun n j z => am_up_at z
  have m6 : am_up M 6 r 2 6 r = 2 := am_up_same
  have ed : ∀ n j, ¬ (n = sd_rn r ∧ j = 6) → am_up D (sd_rn r) 6 2 n j = D n j := fun n j z => am_up_at z
  have d6 : am_up D (sd_rn r) 6 2 (sd_rn r) 6 = 2 := am_up_same
  generalize am_up M 6 r 2 = M' at *
  generalize am_up D (sd_rn r) 6 2 = D' at *
  have eR : vR M' = vR M := zvR (em 0 8 (by omega))
  have es : ∀ n j, n ≤ 20 → D' n j = D n j := fun n j z => ed n j (fun y => by have := y.1; unfold sd_rn at this; omega)
  have ep : ∀ k j, D' (sd_pn k) j = D (sd_pn k) j := fun k j => ed _ j (fun y => sd_ne r k y.1.symm)
  obtain ⟨f2, f3, f4, f5, f6, f7⟩ := h.R.2 r hr
  refine h.ride (h.G.c (em 0 1 (by omega)) (em 0 2 (by omega)) (em 0 8 (by omega)) (em 0 17 (by omega)) (fun j => em 1 j (by omega))) (mGR_of h.GR eR (zvL (em 0 1 (by omega))) (fun j => em 7 j (by omega)) (fun j => em 8 j (by omega))) (h.O.eq (es 0 0 (by omega)) (es 0 4 (by omega)) (fun j => es 12 j (by omega)) (fun j => es 13 j (by omega)) (fun k => ⟨ed _ 0 (by omega), ed _ 1 (by omega)⟩)) (h.T.eq (fun q _ => es 5 q (by omega)) eR (fun k _ s _ => em 12 _ (by omega)) n3) ?_ (h.P.eq (fun k _ j _ => ep k j) eR (fun k _ s _ => em 12 _ (by omega)) n3) ((es 0 6 (by omega)).trans (h.m.trans (em 0 21 (by omega)).symm)) hI (fun n j _ z _ _ => es n j (by omega)) (fun n j z => em n j (by omega))
  refine rR_new (r := r) h.R ?_ (fun k hk _ => by rw [← eR]; exact hk) (fun k hk hn => ⟨fun j => ed _ j (fun y => sd_rr hn y.1), fun n _ _ => em n k (fun y => hn y.2)⟩) ⟨?_, ?_, ?_, ?_, by rw [d6, m6], ?_⟩
  · rw [eR, ← h.R.1]
    unfold dR
    rw [es 0 4 (by omega)]
  · rw [ed _ 2 (by omega), em 7 r (by omega)]
    exact f2
  · rw [ed _ 3 (by omega), em 8 r (by omega)]
    exact f3
  · rw [ed _ 4 (by omega), em 9 r (by omega)]
    exact f4
  · rw [ed _ 5 (by omega), em 10 r (by omega)]
    exact f5
  · rw [ed _ 7 (by omega), em 11 r (by omega)]
    exact f7
theorem mQr_c {M M' : am_D} {t : Int32} {bg : Nat} : ∀ (f r : Nat), (∀ i, i < r + f → M' 6 i = M 6 i ∧ M' 7 i = M 7 i ∧ M' 9 i = M 9 i) → mQr M' t bg f r = mQr M t bg f r
  | 0, _, _ => rfl
  | f + 1, r, h => by
    obtain ⟨e6, e7, e9⟩ := h r (by omega)
    unfold mQr
    rw [mQr_c f (r + 1) (fun i hi => h i (by omega)), e6, e7, e9]
theorem mQs_c {M M' : am_D} {t : Int32} (hR : vR M' = vR M) (hL : vL M' = vL M) (h : ∀ i, i < vR M → M' 6 i = M 6 i ∧ M' 7 i = M 7 i ∧ M' 9 i = M 9 i) : mQs M' t = mQs M t := by
  have key : ∀ f bg, mQb M' t f bg = mQb M t f bg := by
    intro f
    induction f with
    | zero => exact fun _ => rfl
    | succ f ih =>
      intro bg
      unfold mQb
      rw [ih, hR, mQr_c (vR M) 0 (fun i hi => h i (by omega))]
  unfold mQs
  rw [hL]
  exact key _ _
