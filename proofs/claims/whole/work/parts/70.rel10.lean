/-! ===== desk and reference: the sweep is alike ===== -/
/-- what holds of the reference's rides; x: one who has no seat yet -/
def rI (M : am_D) (x : Option Nat) : Prop := rSt M ∧ (∀ r, r < vR M → dCl (M 9 r)) ∧ rW M ∧ rU M ∧ (∀ r, r < vR M → M 6 r = 0 ∨ M 6 r = 3 → ∀ s, s < 29 → M 12 (29 * r + s) = -1) ∧ (∀ r, r < vR M → M 6 r = 1 → ¬ some r = x → ∃ q, q < vF M (vC M) ∧ mK M q = M 9 r ∧ ∀ s, s < 29 → va M r ≤ s → s < vb M r → M 12 (29 * r + s) = nI q) ∧ ∀ r, r < vR M → some r = x → ∀ s, s < 29 → M 12 (29 * r + s) = -1
theorem rI.st {M : am_D} {x : Option Nat} (h : rI M x) : rSt M := h.1
theorem rI.cl {M : am_D} {x : Option Nat} (h : rI M x) : ∀ r, r < vR M → dCl (M 9 r) := h.2.1
theorem rI.w {M : am_D} {x : Option Nat} (h : rI M x) : rW M := h.2.2.1
theorem rI.u {M : am_D} {x : Option Nat} (h : rI M x) : rU M := h.2.2.2.1
theorem rI.no {M : am_D} {x : Option Nat} (h : rI M x) : ∀ r, r < vR M → M 6 r = 0 ∨ M 6 r = 3 → ∀ s, s < 29 → M 12 (29 * r + s) = -1 := h.2.2.2.2.1
theorem rI.mv {M : am_D} {x : Option Nat} (h : rI M x) : ∀ r, r < vR M → M 6 r = 1 → ¬ some r = x → ∃ q, q < vF M (vC M) ∧ mK M q = M 9 r ∧ ∀ s, s < 29 → va M r ≤ s → s < vb M r → M 12 (29 * r + s) = nI q := h.2.2.2.2.2.1
theorem rI.x0 {M : am_D} {x : Option Nat} (h : rI M x) : ∀ r, r < vR M → some r = x → ∀ s, s < 29 → M 12 (29 * r + s) = -1 := h.2.2.2.2.2.2
theorem rI.eq {M M' : am_D} {x : Option Nat} (h : rI M x) (hR : vR M' = vR M) (hF : vF M (vC M) ≤ vF M' (vC M')) (hK : ∀ q, q < vF M (vC M) → mK M' q = mK M q) (hM : ∀ r, r < vR M → M' 6 r = M 6 r ∧ M' 7 r = M 7 r ∧ M' 8 r = M 8 r ∧ M' 9 r = M 9 r ∧ ∀ s, s < 29 → M' 12 (29 * r + s) = M 12 (29 * r + s)) : rI M' x := by
  have ea : ∀ r, r < vR M → va M' r = va M r := fun r hr => by
    unfold va
    rw [(hM r hr).2.1]
  have eb : ∀ r, r < vR M → vb M' r = vb M r := fun r hr => by
    unfold vb
    rw [(hM r hr).2.2.1]
  refine ⟨fun r hr => ?_, fun r hr => ?_, fun r hr s hs => ?_, h.u.eq hR (fun r hr => (hM r hr).2.2.2.2), fun r hr h6 s hs => ?_, fun r hr h6 hx => ?_, fun r hr hx s hs => ?_⟩ <;> rw [hR] at hr <;> obtain ⟨e6, e7, e8, e9, e12⟩ := hM r hr
  · rw [e6]
    exact h.st r hr
  · rw [e9]
    exact h.cl r hr
  · rw [e12 s hs, ea r hr, eb r hr]
    exact (h.w r hr s hs).imp id (fun z => ⟨z.1, z.2.1, z.2.2.imp (fun q y => ⟨by omega, y.2⟩)⟩)
  · rw [e12 s hs]
    rw [e6] at h6
    exact h.no r hr h6 s hs
  · rw [e6] at h6
    obtain ⟨q, z1, z0, z2⟩ := h.mv r hr h6 hx
    refine ⟨q, by omega, by rw [hK q z1, e9]; exact z0, fun s hs s1 s2 => ?_⟩
    rw [ea r hr] at s1
    rw [eb r hr] at s2
    rw [e12 s hs]
    exact z2 s hs s1 s2
  · rw [e12 s hs]
    exact h.x0 r hr hx s hs
theorem dCp_at {D : am_D} {x y j : Nat} : dCp D x y y j = if j < 80 then D x j else D y j := by
  unfold dCp
  by_cases h : j < 80
  · rw [if_pos ⟨rfl, h⟩, if_pos h]
  · rw [if_neg (fun z => h z.2), if_neg h]
theorem mQs_mem {L : Nat} {D M : am_D} {t : Int32} {bt : Option Nat} {x : Nat} (hV : rV L D M) (hL : vL M = L) (hq : ∀ i, i < vR M → (D (sd_rn i) 6 = 1 ∧ ¬ some i = bt ↔ M 6 i = 1)) : dQs L D t bt = mQs M t ∧ (mQs M t).Nodup ∧ (x ∈ mQs M t ↔ x < vR M ∧ M 6 x = 1 ∧ M 9 x = t) := by
  have hL29 := hV.2.1.2.2.1
  have e : dQs L D t bt = mQs M t := qs_eq hL hV.2.1 hV.2.2.1 hV.1 (fun i hi => ⟨(hV.2.2.2.2 i hi).1, (hV.2.2.2.2 i hi).2.2, hq i hi⟩)
  have hW : dW L D := fun i hi => by
    rw [hV.1] at hi
    obtain ⟨w1, w2, w3, w4, w5, w6, w7⟩ := hV.w hi
    rw [w4, w5]
    exact ⟨w1, w2, w6, by omega⟩
  refine ⟨e, ?_, ?_⟩
  · rw [← e]
    exact dQb_nd L 0 (by omega)
  · rw [← e, dQs_mem hW (by omega), hV.1]
    constructor
    · rintro ⟨z1, z2, z3, z4⟩
      exact ⟨z1, (hq x z1).mp ⟨z2, z4⟩, by rw [← z3]; exact (hV.2.2.2.2 x z1).2.2.symm⟩
    · rintro ⟨z1, z2, z3⟩
      obtain ⟨y1, y2⟩ := (hq x z1).mpr z2
      exact ⟨z1, y1, by rw [← z3]; exact (hV.2.2.2.2 x z1).2.2, y2⟩
theorem zvF {M M' : am_D} {c : Nat} (h : ∀ j, M' 1 j = M 1 j) : vF M' c = vF M c := by
  unfold vF
  rw [h]
theorem zvC {M M' : am_D} (h : M' 0 2 = M 0 2) : vC M' = vC M := by
  unfold vC
  rw [h]
theorem zvR {M M' : am_D} (h : M' 0 8 = M 0 8) : vR M' = vR M := by
  unfold vR
  rw [h]
theorem zvL {M M' : am_D} (h : M' 0 1 = M 0 1) : vL M' = vL M := by
  unfold vL
  rw [h]
theorem zva {M M' : am_D} {r : Nat} (h : M' 7 r = M 7 r) : va M' r = va M r := by
  unfold va
  rw [h]
theorem zvb {M M' : am_D} {r : Nat} (h : M' 8 r = M 8 r) : vb M' r = vb M r := by
  unfold vb
  rw [h]
theorem zdC {D D' : am_D} (h : D' 1 1 = D 1 1) : dC D' = dC D := by
  unfold dC
  rw [h]
theorem sweep_eq {L : Nat} {t one : Int32} {bt : Option Nat} {D M : am_D} (ht : dCl t) (hS : rS L D M) (hT : rT L D M) (hK : rK L D M) (hV : rV L D M) (hP : rP L D M) (hI : rI M bt) (hq : ∀ i, i < vR M → (D (sd_rn i) 6 = 1 ↔ M 6 i = 1)) (h6 : D 0 6 = M 0 21) (hone : ∀ r, r < vR M → (nI r = one ↔ some r = bt)) (hbt : ∀ r, some r = bt → r < vR M → M 6 r = 1 ∧ M 9 r = t) : (dSweep L D t bt).2 = (mSweep M t one).2 ∧ rT L (dSweep L D t bt).1 (mSweep M t one).1 ∧ rP L (dSweep L D t bt).1 (mSweep M t one).1 ∧ (dSweep L D t bt).1 0 6 = (mSweep M t one).1 0 21 ∧ ((mSweep M t one).2 = true → rI (mSweep M t one).1 none) ∧ (¬ (mSweep M t one).2 = true → rI (mSweep M t one).1 bt ∧ ∀ j, (mSweep M t one).1 12 j = M 12 j) := by
  have hL := hS.1
  have hL29 := hV.2.1.2.2.1
  have h80 := hV.2.2.2.1
  have hCC : dC D = vF M (vC M) := hS.2.2.2.2.2.1
  have hqq := mQs_mem (t := t) (bt := none) (x := 0) hV hL (fun i hi => ⟨fun z => (hq i hi).mp z.1, fun z => ⟨(hq i hi).mpr z, by simp⟩⟩)
  have hmem : ∀ x, x ∈ mQs M t ↔ x < vR M ∧ M 6 x = 1 ∧ M 9 x = t := fun x => (mQs_mem (t := t) (bt := none) (x := x) hV hL (fun i hi => ⟨fun z => (hq i hi).mp z.1, fun z => ⟨(hq i hi).mpr z, by simp⟩⟩)).2.2
  have hnd := hqq.2.1
  have hsv : mEq M (mSav M) := mEq_sav
  have eD0 : dE D (dCp (dPut D (mQs M t)) 5 20) := dPut_e.tr dCp_e
  have e05 : ∀ j, dCp (dPut D (mQs M t)) 5 20 5 j = D 5 j := fun j => by
    unfold dCp
    rw [if_neg (fun z => absurd z.1 (by decide)), dPut_ne (by decide)]
  have hT0 : rT L (dCp (dPut D (mQs M t)) 5 20) (mSav M) := hT.eq (fun q _ => e05 q) hsv.R (fun r hr s hs => mSav_row) (by omega)
  have hV0 : rV L (dCp (dPut D (mQs M t)) 5 20) (mSav M) := hV.eq (eD0 1 1 (by omega) (by omega) (by omega) (by omega)) (eD0 0 4 (by omega) (by omega) (by omega) (by omega)) eD0.rn hsv
  have hW0 : rW (mSav M) := fun r hr s hs => by
    rw [mSav_row, hsv.a, hsv.b, zvF (fun j => hsv 1 j (by decide) (by decide)), zvC (hsv 0 2 (by decide) (by decide))]
    exact hI.w r (by rw [← hsv.R]; exact hr) s hs
  have hU0 : rU (mSav M) := hI.u.eq hsv.R (fun r hr s hs => mSav_row)
  have eC0 : dC (dCp (dPut D (mQs M t)) 5 20) = vF (mSav M) (vC (mSav M)) := by
    rw [zdC (eD0 1 1 (by omega) (by omega) (by omega) (by omega)), zvF (fun j => hsv 1 j (by decide) (by decide)), zvC (hsv 0 2 (by decide) (by decide))]
    exact hCC
  have hT1 := up_T (t := t) (Q := mQs M t) hT0 hV0 hU0 hW0 (by rw [hsv.L]; exact hL) eC0 (fun i hi s hs => by
    rw [eD0.pn, mSav_row]
    exact hP i ((hmem i).mp hi).1 s hs) (fun r hr => by
    rw [hmem r, hsv 6 r (by decide) (by decide), hsv 9 r (by decide) (by decide)]
    rw [hsv.R] at hr
    exact ⟨fun z => z.2, fun z => ⟨hr, z⟩⟩) (fun r hr => by rw [hsv.R]; exact ((hmem r).mp hr).1) (fun r hr => by
    obtain ⟨z1, z2, z3⟩ := (hmem r).mp hr
    rw [hsv.a, hsv.b]
    obtain ⟨w1, w2, w3, w4, w5, w6, w7⟩ := hV.w z1
    by_cases hx : some r = bt
    · exact ⟨-1, fun s s1 s2 => by rw [mSav_row]; exact hI.x0 r z1 hx s (by omega)⟩
    · obtain ⟨q, y1, y0, y2⟩ := hI.mv r z1 z2 hx
      exact ⟨nI q, fun s s1 s2 => by rw [mSav_row]; exact y2 s (by omega) s1 s2⟩)
  rw [hsv.R] at hT1
  have eD1 : dE D (dUp (mQs M t) (dCp (dPut D (mQs M t)) 5 20)) := eD0.tr dUp_e
  have eM1 : mEq M (mUpI (mSav M) t (vR M)) := mEq_up hsv
  have eMn : ∀ n j, n ≠ 12 → n ≠ 13 → mUpI (mSav M) t (vR M) n j = M n j := eM1
  have row1 : ∀ r s, s < 29 → mUpI (mSav M) t (vR M) 12 (29 * r + s) = if r < vR M ∧ M 6 r = 1 ∧ M 9 r = t then -1 else M 12 (29 * r + s) := fun r s hs => by
    rw [mUpI_row hs, mSav_row, hsv 6 r (by decide) (by decide), hsv 9 r (by decide) (by decide)]
  have hU1 : rU (mUpI (mSav M) t (vR M)) := by
    intro r r' s q z1 z2 z3 z4 z5 z6
    rw [eM1.R] at z1 z2
    rw [row1 r s z3] at z5
    rw [row1 r' s z3] at z6
    by_cases y1 : r < vR M ∧ M 6 r = 1 ∧ M 9 r = t
    · rw [if_pos y1] at z5
      exact absurd z5.symm (nI_m1 (by omega))
    · by_cases y2 : r' < vR M ∧ M 6 r' = 1 ∧ M 9 r' = t
      · rw [if_pos y2] at z6
        exact absurd z6.symm (nI_m1 (by omega))
      · rw [if_neg y1] at z5
        rw [if_neg y2] at z6
        exact hI.u r r' s q z1 z2 z3 z4 z5 z6
  have hS1 : rS L (dUp (mQs M t) (dCp (dPut D (mQs M t)) 5 20)) (mUpI (mSav M) t (vR M)) := hS.eq (fun n j z => eD1 n j (by omega) (by omega) (by omega) (by omega)) (fun n j z => eMn n j (by omega) (by omega))
  have hK1 : rK L (dUp (mQs M t) (dCp (dPut D (mQs M t)) 5 20)) (mUpI (mSav M) t (vR M)) := hK.eq (eD1 1 1 (by omega) (by omega) (by omega) (by omega)) (fun q => eD1 2 q (by omega) (by omega) (by omega) (by omega)) (fun q => eD1 6 q (by omega) (by omega) (by omega) (by omega)) (eMn 0 17 (by omega) (by omega)) (fun n j z => eMn n j (by omega) (by omega))
  have hV1 : rV L (dUp (mQs M t) (dCp (dPut D (mQs M t)) 5 20)) (mUpI (mSav M) t (vR M)) := hV.eq (eD1 1 1 (by omega) (by omega) (by omega) (by omega)) (eD1 0 4 (by omega) (by omega) (by omega) (by omega)) eD1.rn eM1
  obtain ⟨c1, c2⟩ := sw_core (bt := bt) ht hS1 hT1 hK1 hV1 hU1 hnd (fun i hi => by
    have hz := (hmem i).mp hi
    refine ⟨by rw [eM1.R]; exact hz.1, by rw [eMn 9 i (by omega) (by omega)]; exact hz.2.2, fun s hs => ?_⟩
    rw [row1 i s hs, if_pos hz])
  have eds : dSweep L D t bt = dSw L D (mQs M t) bt := by
    unfold dSweep
    rw [hqq.1]
  rw [eds]
  unfold dSw mSweep
  rw [c1]
  by_cases hok : (mSeat t (mQs M t) (mUpI (mSav M) t (vR M))).2 = true
  · rw [if_pos hok, if_pos hok]
    obtain ⟨d1, d2, d3, d4, d5⟩ := c2 (c1.trans hok)
    have eMf : mEq M (mSeat t (mQs M t) (mUpI (mSav M) t (vR M))).1 := mSeat_eq _ _ eM1
    have rowf : ∀ r, r ∉ mQs M t → ∀ s, s < 29 → (mSeat t (mQs M t) (mUpI (mSav M) t (vR M))).1 12 (29 * r + s) = M 12 (29 * r + s) := fun r hr s hs => by
      rw [(d4 r hr).1 s hs, row1 r s hs, if_neg (fun z => hr ((hmem r).mpr z))]
    have eF : vF (mSeat t (mQs M t) (mUpI (mSav M) t (vR M))).1 (vC (mSeat t (mQs M t) (mUpI (mSav M) t (vR M))).1) = vF M (vC M) := by
      rw [zvF (fun j => eMf 1 j (by decide) (by decide)), zvC (eMf 0 2 (by decide) (by decide))]
    have eC1 : dC (dUp (mQs M t) (dCp (dPut D (mQs M t)) 5 20)) = dC D := zdC (eD1 1 1 (by omega) (by omega) (by omega) (by omega))
    have eK : ∀ q, mK (mSeat t (mQs M t) (mUpI (mSav M) t (vR M))).1 q = mK M q := fun q => zmK (fun j => eMf 1 j (by decide) (by decide)) (fun j => eMf 2 j (by decide) (by decide))
    have hrow : ∀ r, r < vR M → r ∈ mQs M t → ∃ q, q < vF M (vC M) ∧ mK M q = M 9 r ∧ ∀ s, s < 29 → (mSeat t (mQs M t) (mUpI (mSav M) t (vR M))).1 12 (29 * r + s) = if va M r ≤ s ∧ s < vb M r then nI q else -1 := fun r hr hm => by
      obtain ⟨q, y1, y0, y2, y3⟩ := d3 r hm
      rw [eM1.a, eM1.b] at y2
      refine ⟨q, by omega, ?_, y2⟩
      rw [((hmem r).mp hm).2.2, ← y0.2]
      exact (zmK (fun j => eMn 1 j (by omega) (by omega)) (fun j => eMn 2 j (by omega) (by omega))).symm
    have hIf : rI (mSeat t (mQs M t) (mUpI (mSav M) t (vR M))).1 none := by
      refine ⟨fun r hr => ?_, fun r hr => ?_, fun r hr s hs => ?_, d2, fun r hr z s hs => ?_, fun r hr z _ => ?_, fun r hr z => absurd z (by simp)⟩ <;> rw [eMf.R] at hr
      · rw [eMf 6 r (by decide) (by decide)]
        exact hI.st r hr
      · rw [eMf 9 r (by decide) (by decide)]
        exact hI.cl r hr
      · rw [eMf.a, eMf.b, eF]
        by_cases hm : r ∈ mQs M t
        · obtain ⟨q, y1, y0, y2⟩ := hrow r hr hm
          rw [y2 s hs]
          by_cases hz : va M r ≤ s ∧ s < vb M r
          · rw [if_pos hz]
            exact Or.inr ⟨hz.1, hz.2, q, y1, rfl⟩
          · rw [if_neg hz]
            exact Or.inl rfl
        · rw [rowf r hm s hs]
          exact hI.w r hr s hs
      · rw [eMf 6 r (by decide) (by decide)] at z
        rw [rowf r (fun y => ?_) s hs]
        · exact hI.no r hr z s hs
        · have := ((hmem r).mp y).2.1
          rw [this] at z
          exact absurd z (by decide)
      · rw [eMf 6 r (by decide) (by decide)] at z
        rw [eMf.a, eMf.b, eF, eMf 9 r (by decide) (by decide)]
        by_cases hm : r ∈ mQs M t
        · obtain ⟨q, y1, y0, y2⟩ := hrow r hr hm
          exact ⟨q, y1, by rw [eK]; exact y0, fun s hs s1 s2 => by rw [y2 s hs, if_pos ⟨s1, s2⟩]⟩
        · have hx : ¬ some r = bt := fun y => by
            have := hbt r y hr
            exact hm ((hmem r).mpr ⟨hr, z, this.2⟩)
          obtain ⟨q, y1, y0, y2⟩ := hI.mv r hr z hx
          exact ⟨q, y1, by rw [eK]; exact y0, fun s hs s1 s2 => by rw [rowf r hm s hs]; exact y2 s hs s1 s2⟩
    have up : ∀ (x : Int32) n j, ¬ (n = 0 ∧ j = 21) → am_up (mSeat t (mQs M t) (mUpI (mSav M) t (vR M))).1 0 21 x n j = (mSeat t (mQs M t) (mUpI (mSav M) t (vR M))).1 n j := fun x n j z => am_up_at z
    have hup : ∀ x, rI (am_up (mSeat t (mQs M t) (mUpI (mSav M) t (vR M))).1 0 21 x) none := fun x => hIf.eq (zvR (up x 0 8 (by omega))) (by rw [zvF (fun j => up x 1 j (by omega)), zvC (up x 0 2 (by omega))]; exact Nat.le_refl _) (fun q _ => zmK (fun j => up x 1 j (by omega)) (fun j => up x 2 j (by omega))) (fun r _ => ⟨up x 6 r (by omega), up x 7 r (by omega), up x 8 r (by omega), up x 9 r (by omega), fun s _ => up x 12 _ (by omega)⟩)
    have hRx : ∀ x, vR (am_up (mSeat t (mQs M t) (mUpI (mSav M) t (vR M))).1 0 21 x) = vR M := fun x => (zvR (up x 0 8 (by omega))).trans eMf.R
    have hdT := fun x => d1.eq (M' := am_up (mSeat t (mQs M t) (mUpI (mSav M) t (vR M))).1 0 21 x) (fun _ _ => rfl) (zvR (up x 0 8 (by omega))) (fun r _ s _ => up x 12 _ (by omega)) (by omega)
    refine ⟨rfl, ?_, ?_, ?_, fun _ => ?_, fun z => absurd rfl z⟩
    · exact hdT _
    · intro r hr s hs
      dsimp only
      have hr : r < vR M := Nat.lt_of_lt_of_eq hr (hRx _)
      rw [up _ 12 _ (by omega)]
      by_cases hm : r ∈ mQs M t
      · obtain ⟨q, y1, y0, y2, y3⟩ := d3 r hm
        rw [eM1.a, eM1.b] at y2 y3
        rw [y2 s (by omega), y3 s]
        by_cases hz : va M r ≤ s ∧ s < vb M r
        · rw [if_pos hz, if_pos hz]
        · rw [if_neg hz, if_neg hz, eD1.pn, hP r hr s hs]
          exact (hI.w r hr s (by omega)).resolve_right (fun y => hz ⟨y.1, y.2.1⟩)
      · rw [(d4 r hm).2 s, rowf r hm s (by omega), eD1.pn, hP r hr s hs]
    · dsimp only
      rw [am_up_same, d5, eD1 0 6 (by omega) (by omega) (by omega) (by omega), h6, eM1.R]
      congr 2
      refine am_cnt_c _ _ _ (fun r _ hr => ?_)
      have hr' : r < vR M := by omega
      obtain ⟨w1, w2, w3, w4, w5, w6, w7⟩ := hV.w hr'
      rw [hmem r, eM1.a, eD1.pn, hP r hr' _ (by omega)]
      unfold mMov
      rw [hone r hr']
      constructor
      · rintro ⟨⟨z1, z2, z3⟩, z4, z5⟩
        obtain ⟨q, y1, y0, y2⟩ := hI.mv r hr' z2 z4
        refine ⟨z4, z2, z3, ?_, z5⟩
        rw [y2 _ (by omega) (by omega) w6]
        exact nI_pos (by omega)
      · rintro ⟨z1, z2, z3, z4, z5⟩
        exact ⟨⟨hr', z2, z3⟩, z1, z5⟩
    · exact hup _
  · rw [if_neg hok, if_neg hok]
    have eDf : dE D (dCp (dFs L (mQs M t) 0 (dUp (mQs M t) (dCp (dPut D (mQs M t)) 5 20))).1 20 5) := (eD1.tr dFs_e).tr dCp_e5
    have e5 : ∀ q, q < 80 → dCp (dFs L (mQs M t) 0 (dUp (mQs M t) (dCp (dPut D (mQs M t)) 5 20))).1 20 5 5 q = D 5 q := fun q hq => by
      rw [dCp_at, if_pos hq, dFs_ne _ _ _ _ _ (by omega) (by omega), dUp_ne _ _ _ _ (by omega), dCp_at, if_pos hq, dPut_ne (by omega)]
    refine ⟨rfl, ?_, ?_, ?_, fun z => absurd z Bool.false_ne_true, fun _ => ⟨?_, fun j => mSav_row⟩⟩
    · exact hT.eq (fun q hq => e5 q (by omega)) hsv.R (fun r _ s _ => mSav_row) (by omega)
    · intro r hr s hs
      exact (eDf.pn r s).trans ((hP r (by rw [← hsv.R]; exact hr) s hs).trans mSav_row.symm)
    · exact (eDf 0 6 (by omega) (by omega) (by omega) (by omega)).trans (h6.trans (hsv 0 21 (by decide) (by decide)).symm)
    · exact hI.eq hsv.R (by rw [zvF (fun j => hsv 1 j (by decide) (by decide)), zvC (hsv 0 2 (by decide) (by decide))]; exact Nat.le_refl _) (fun q _ => zmK (fun j => hsv 1 j (by decide) (by decide)) (fun j => hsv 2 j (by decide) (by decide))) (fun r _ => ⟨hsv 6 r (by decide) (by decide), hsv 7 r (by decide) (by decide), hsv 8 r (by decide) (by decide), hsv 9 r (by decide) (by decide), fun s _ => mSav_row⟩)
