/-! ===== desk and reference: the queue, the sweep ===== -/
theorem qr_eq {D M : am_D} {t : Int32} {bt : Option Nat} {bg : Nat} (h : ∀ i, i < vR M → D (sd_rn i) 2 = M 7 i ∧ D (sd_rn i) 4 = M 9 i ∧ (D (sd_rn i) 6 = 1 ∧ ¬ some i = bt ↔ M 6 i = 1)) : ∀ (f r : Nat), r + f ≤ vR M → dQr D t bt bg f r = mQr M t bg f r
  | 0, _, _ => rfl
  | f + 1, r, hf => by
    obtain ⟨h2, h4, h6⟩ := h r (by omega)
    unfold dQr mQr
    rw [qr_eq h f (r + 1) (by omega)]
    have e : (D (sd_rn r) 2 = nI bg ∧ D (sd_rn r) 6 = 1 ∧ D (sd_rn r) 4 = t ∧ ¬ some r = bt) ↔ (M 6 r = 1 ∧ M 9 r = t ∧ M 7 r = nI bg) := by
      rw [h2, h4, ← h6]
      exact ⟨fun z => ⟨⟨z.2.1, z.2.2.2⟩, z.2.2.1, z.1⟩, fun z => ⟨z.2.2, z.1.1, z.2.1, z.1.2⟩⟩
    by_cases hz : M 6 r = 1 ∧ M 9 r = t ∧ M 7 r = nI bg
    · rw [if_pos (e.mpr hz), if_pos hz]
    · rw [if_neg (fun z => hz (e.mp z)), if_neg hz]
theorem mQr_nil {M : am_D} {t : Int32} {bg : Nat} (h : ∀ r, r < vR M → ¬ M 7 r = nI bg) : ∀ (f r : Nat), r + f ≤ vR M → mQr M t bg f r = []
  | 0, _, _ => rfl
  | f + 1, r, hf => by
    unfold mQr
    rw [if_neg (fun z => h r (by omega) z.2.2)]
    exact mQr_nil h f (r + 1) (by omega)
theorem qb_eq {L : Nat} {D M : am_D} {t : Int32} {bt : Option Nat} (hL : vL M = L) (hG : mG M) (hGR : mGR M) (hR : dR D = vR M) (h : ∀ i, i < vR M → D (sd_rn i) 2 = M 7 i ∧ D (sd_rn i) 4 = M 9 i ∧ (D (sd_rn i) 6 = 1 ∧ ¬ some i = bt ↔ M 6 i = 1)) : ∀ (f st : Nat), st + f = L → dQb D t bt f st = mQb M t (f + 1) st
  | 0, st, hs => by
    unfold dQb mQb mQb
    rw [mQr_nil (fun r hr z => ?_) (vR M) 0 (by omega)]
    · rfl
    · obtain ⟨y1, y2, y3, y4⟩ := hGR r hr
      have := hG.2.2.1
      rw [y1, nI_inji (by omega) (by omega)] at z
      omega
  | f + 1, st, hs => by
    unfold dQb mQb
    rw [qb_eq hL hG hGR hR h f (st + 1) (by omega), hR, qr_eq h (vR M) 0 (by omega)]
theorem qs_eq {L : Nat} {D M : am_D} {t : Int32} {bt : Option Nat} (hL : vL M = L) (hG : mG M) (hGR : mGR M) (hR : dR D = vR M) (h : ∀ i, i < vR M → D (sd_rn i) 2 = M 7 i ∧ D (sd_rn i) 4 = M 9 i ∧ (D (sd_rn i) 6 = 1 ∧ ¬ some i = bt ↔ M 6 i = 1)) : dQs L D t bt = mQs M t := by
  unfold dQs mQs
  rw [hL]
  exact qb_eq hL hG hGR hR h L 0 (by omega)
/-- places of rides lie in their ways -/
def rW (M : am_D) : Prop := ∀ r, r < vR M → ∀ s, s < 29 → M 12 (29 * r + s) = -1 ∨ (va M r ≤ s ∧ s < vb M r ∧ ∃ q, q < vF M (vC M) ∧ M 12 (29 * r + s) = nI q)
theorem mUpI_row {M : am_D} {t : Int32} {n r s : Nat} (hs : s < 29) : mUpI M t n 12 (29 * r + s) = if r < n ∧ M 6 r = 1 ∧ M 9 r = t then -1 else M 12 (29 * r + s) := by
  have e : (29 * r + s) / 29 = r := by omega
  unfold mUpI
  rw [e]
  by_cases h : r < n ∧ M 6 r = 1 ∧ M 9 r = t
  · rw [if_pos h, if_pos ⟨rfl, by omega, h.2⟩]
  · rw [if_neg h, if_neg (fun z => h ⟨by omega, z.2.2⟩)]
theorem mSav_row {M : am_D} {j : Nat} : mSav M 12 j = M 12 j := mSavI_ne (by decide)
theorem up_T {L : Nat} {t : Int32} {Q : List Nat} {D M : am_D} (hT : rT L D M) (hV : rV L D M) (hU : rU M) (hW : rW M) (hL : vL M = L) (hC : dC D = vF M (vC M)) (hP : ∀ i ∈ Q, ∀ s, s < L → D (sd_pn i) s = M 12 (29 * i + s)) (hQ : ∀ r, r < vR M → (r ∈ Q ↔ M 6 r = 1 ∧ M 9 r = t)) (hQ' : ∀ r ∈ Q, r < vR M) (hM : ∀ r ∈ Q, ∃ p, ∀ s, va M r ≤ s → s < vb M r → M 12 (29 * r + s) = p) : rT L (dUp Q D) (mUpI M t (vR M)) := by
  have hL29 := hV.2.1.2.2.1
  have h80 := hV.2.2.2.1
  have eC : dC (dUp Q D) = dC D := by
    unfold dC
    rw [dUp_ne Q D 1 1 (by omega)]
  have eR : vR (mUpI M t (vR M)) = vR M := by
    unfold vR
    rw [mUpI_ne (by omega)]
  intro q hq s hs
  have hrow : ∀ i ∈ Q, D (sd_pn i) (da D i) = M 12 (29 * i + va M i) := fun i hi => by
    obtain ⟨w1, w2, w3, w4, w5, w6, w7⟩ := hV.w (hQ' i hi)
    rw [w4]
    exact hP i hi _ (by omega)
  rw [dUp_bt (by omega) (by omega) Q D (fun i hi => by
    obtain ⟨w1, w2, w3, w4, w5, w6, w7⟩ := hV.w (hQ' i hi)
    refine ⟨by rw [w1, w4], by rw [w2, w5], by omega, by omega, ?_⟩
    rw [hrow i hi]
    rcases hW i (hQ' i hi) (va M i) (by omega) with z | ⟨-, -, q', z1, z2⟩
    · exact Or.inl z
    · exact Or.inr ⟨q', by omega, z2⟩), hT q hq s hs, eR]
  constructor
  · rintro ⟨⟨r, h1, h2⟩, h3⟩
    refine ⟨r, h1, ?_⟩
    rw [mUpI_row (by omega), if_neg (fun z => ?_)]
    · exact h2
    · have hr := (hQ r h1).mpr z.2
      obtain ⟨p, hp⟩ := hM r hr
      obtain ⟨w1, w2, w3, w4, w5, w6, w7⟩ := hV.w h1
      rcases hW r h1 s (by omega) with y | ⟨y1, y2, -⟩
      · rw [h2] at y
        exact nI_m1 (by omega) y
      · refine h3 r hr ⟨?_, by omega, by omega⟩
        rw [hrow r hr, hp _ (by omega) (by omega), ← h2, hp s y1 y2]
  · rintro ⟨r, h1, h2⟩
    rw [mUpI_row (by omega)] at h2
    by_cases hz : r < vR M ∧ M 6 r = 1 ∧ M 9 r = t
    · rw [if_pos hz] at h2
      exact absurd h2.symm (nI_m1 (by omega))
    · rw [if_neg hz] at h2
      refine ⟨⟨r, h1, h2⟩, fun i hi ⟨z1, z2, z3⟩ => ?_⟩
      obtain ⟨w1, w2, w3, w4, w5, w6, w7⟩ := hV.w (hQ' i hi)
      obtain ⟨p, hp⟩ := hM i hi
      rw [hrow i hi, hp _ (by omega) (by omega)] at z1
      have := hU i r s q (hQ' i hi) h1 (by omega) (by omega) ((hp s (by omega) (by omega)).trans z1) h2
      subst this
      exact hz ⟨h1, (hQ i h1).mp hi⟩
theorem sw_core {L : Nat} {t : Int32} {bt : Option Nat} {Q : List Nat} {D M : am_D} (ht : dCl t) (hS : rS L D M) (hT : rT L D M) (hK : rK L D M) (hV : rV L D M) (hU : rU M) (hn : Q.Nodup) (hQ : ∀ i ∈ Q, i < vR M ∧ M 9 i = t ∧ ∀ s, s < 29 → M 12 (29 * i + s) = -1) : (dFs L Q 0 D).2 = (mSeat t Q M).2 ∧ ((dFs L Q 0 D).2 = true → rT L (dSt bt Q 0 (dFs L Q 0 D).1) (mSeat t Q M).1 ∧ rU (mSeat t Q M).1 ∧ (∀ i ∈ Q, ∃ q, q < dC D ∧ mCl M q t ∧ (∀ s, s < 29 → (mSeat t Q M).1 12 (29 * i + s) = if va M i ≤ s ∧ s < vb M i then nI q else -1) ∧ ∀ s, dSt bt Q 0 (dFs L Q 0 D).1 (sd_pn i) s = if va M i ≤ s ∧ s < vb M i then nI q else D (sd_pn i) s) ∧ (∀ i, i ∉ Q → (∀ s, s < 29 → (mSeat t Q M).1 12 (29 * i + s) = M 12 (29 * i + s)) ∧ ∀ s, dSt bt Q 0 (dFs L Q 0 D).1 (sd_pn i) s = D (sd_pn i) s) ∧ dSt bt Q 0 (dFs L Q 0 D).1 0 6 = D 0 6 + nI (am_cnt (fun r => r ∈ Q ∧ ¬ some r = bt ∧ ¬ D (sd_pn r) (va M r) = (mSeat t Q M).1 12 (29 * r + va M r)) (vR M) 0 0)) := by
  obtain ⟨r1, r2⟩ := fs_eq ht Q 0 D M hS hT hK hV hU hn hQ
  refine ⟨r1, fun htrue => ?_⟩
  obtain ⟨r3, r4, r5, r6⟩ := r2 htrue
  have hE : dE D (dFs L Q 0 D).1 := dFs_e
  have h80 := hV.2.2.2.1
  have hL29 := hV.2.1.2.2.1
  have eC : dC (dFs L Q 0 D).1 = dC D := by
    unfold dC
    rw [hE 1 1 (by omega) (by omega) (by omega) (by omega)]
  obtain ⟨s1, s2⟩ := dSt_row (bt := bt) Q 0 (dFs L Q 0 D).1 hn
  have e5 : ∀ n j, n < 21 → ¬ (n = 0 ∧ j = 6) → dSt bt Q 0 (dFs L Q 0 D).1 n j = (dFs L Q 0 D).1 n j := fun n j h1 h2 => dSt_ne Q 0 _ n j h2 (fun i => by unfold sd_pn; omega)
  refine ⟨r3.eq (fun q _ => e5 5 q (by omega) (by omega)) rfl (fun _ _ _ _ => rfl) (by rw [← hS.1]; exact hL29), r4, fun i hi => ?_, fun i hi => ⟨r6 i hi, fun s => by rw [s2 i hi s, hE.pn]⟩, ?_⟩
  · obtain ⟨j, hj⟩ := List.getElem?_of_mem hi
    obtain ⟨q, z1, z0, z2, z3⟩ := r5 j i hj
    obtain ⟨w1, w2, w3, w4, w5, w6, w7⟩ := hV.w (hQ i hi).1
    refine ⟨q, z1, z0, z3, fun s => ?_⟩
    rw [s1 j i hj s, z2, da_eq (hE.rn i 2), db_eq (hE.rn i 3), w4, w5, hE.pn]
  · rw [dSt_06 (n := vR M) Q 0 _ hn (fun i hi => (hQ i hi).1), hE 0 6 (by omega) (by omega) (by omega) (by omega)]
    congr 2
    refine am_cnt_c _ _ _ (fun r _ hr => ?_)
    constructor
    · rintro ⟨j, z1, z2, z3⟩
      obtain ⟨q, y1, y0, y2, y3⟩ := r5 j r z1
      obtain ⟨w1, w2, w3, w4, w5, w6, w7⟩ := hV.w (show r < vR M by omega)
      refine ⟨List.mem_of_getElem? z1, z2, ?_⟩
      rw [y2, da_eq (hE.rn r 2), w4, hE.pn] at z3
      rw [y3 _ (by omega), if_pos ⟨by omega, by omega⟩]
      exact z3
    · rintro ⟨z1, z2, z3⟩
      obtain ⟨j, hj⟩ := List.getElem?_of_mem z1
      obtain ⟨q, y1, y0, y2, y3⟩ := r5 j r hj
      obtain ⟨w1, w2, w3, w4, w5, w6, w7⟩ := hV.w (show r < vR M by omega)
      refine ⟨j, hj, z2, ?_⟩
      rw [y2, da_eq (hE.rn r 2), w4, hE.pn]
      rw [y3 _ (by omega), if_pos ⟨by omega, by omega⟩] at z3
      exact z3
