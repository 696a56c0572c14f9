/-! ===== desk and reference: best and longest ===== -/
theorem best_eq {L a b : Nat} {D M : am_D} {t one : Int32} (hS : rS L D M) (hT : rT L D M) (hK : rK L D M) (hO : rO M one) (hL : L ≤ 29) (h150 : vR M ≤ 150) (hq80 : dC D ≤ 80) (ht : dCl t) (hab : a ≤ b) (hb : b ≤ L) : ∀ (f q : Nat) (fo le : Int32), q + f ≤ dC D → (fo = -1 ∨ ∃ q', q' < 80 ∧ fo = nI q') → dBestF L D t (wayI (nI a) (nI b)) (nI b) f q fo le = mBestF M a b t one f q fo le
  | 0, _, _, _, _, _ => rfl
  | f + 1, q, fo, le, hf, hfo => by
    unfold dBestF mBestF
    have hq : q < dC D := by omega
    have hfo1 : fo = -1 ↔ fo < 0 := by
      rcases hfo with rfl | ⟨q', h1, rfl⟩
      · exact ⟨fun _ => by decide, fun _ => rfl⟩
      · exact ⟨fun z => absurd z (nI_m1 (by omega)), fun z => absurd z (nI_pos (by omega))⟩
    have hvL : vL M = L := hS.1
    by_cases hc : D 2 q = t
    · have hn1 : ¬ D 2 q = -1 := by rw [hc]; exact dCl_m1 ht
      have e1 : dSp L D (nI b) q = nI (mRun M (nI q) one (vL M - b) b) := by
        rw [hvL]
        exact sp_eq hT hK hO hL h150 hq hq80 hn1 hb
      have e2 := ft_eq (a := a) (b := b) hT hK hO hL h150 hq hq80 hn1 hab hb
      have e3 : (D 2 q = t ∧ dFree D q (wayI (nI a) (nI b)) ∧ (fo = -1 ∨ dSp L D (nI b) q < le)) ↔ (mCl M q t ∧ mFT M (nI q) a b one ∧ (fo < 0 ∨ nI (mRun M (nI q) one (vL M - b) b) < le)) := by
        rw [hS.cl hq ht, e2, e1, hfo1]
      by_cases hz : D 2 q = t ∧ dFree D q (wayI (nI a) (nI b)) ∧ (fo = -1 ∨ dSp L D (nI b) q < le)
      · rw [if_pos hz, if_pos (e3.mp hz), e1]
        exact best_eq hS hT hK hO hL h150 hq80 ht hab hb f (q + 1) _ _ (by omega) (Or.inr ⟨q, by omega, rfl⟩)
      · rw [if_neg hz, if_neg (fun z => hz (e3.mpr z))]
        exact best_eq hS hT hK hO hL h150 hq80 ht hab hb f (q + 1) _ _ (by omega) hfo
    · rw [if_neg (fun z => hc z.1), if_neg (fun z => hc ((hS.cl hq ht).mp z.1))]
      exact best_eq hS hT hK hO hL h150 hq80 ht hab hb f (q + 1) _ _ (by omega) hfo
theorem lg_eq {L a : Nat} {D M : am_D} {t : Int32} (hS : rS L D M) (hT : rT L D M) (hK : rK L D M) (hL : L ≤ 29) (h150 : vR M ≤ 150) (hq80 : dC D ≤ 80) (ht : dCl t) (ha : a ≤ L) : ∀ (f q : Nat) (fo : Int32) (m : Nat), q + f ≤ dC D → m ≤ 29 → dLgF L D (nI a) t f q fo (nI m) = mLgF M a t f q fo (nI (a + m))
  | 0, _, _, _, _, _ => rfl
  | f + 1, q, fo, m, hf, hm => by
    unfold dLgF mLgF
    have hq : q < dC D := by omega
    have hvL : vL M = L := hS.1
    by_cases hc : D 2 q = t
    · have hn1 : ¬ D 2 q = -1 := by rw [hc]; exact dCl_m1 ht
      have e1 : dSp L D (nI a) q = nI (mRun M (nI q) (-1) (vL M - a) a) := by
        rw [hvL]
        exact sp_eq hT hK (rO_m1 h150) hL h150 hq hq80 hn1 ha
      have hr := (run_at (M := M) (p := nI q) (one := -1) (vL M - a) a).1
      rw [if_pos hc, e1]
      have e3 : (nI m < nI (mRun M (nI q) (-1) (vL M - a) a)) ↔ (mCl M q t ∧ nI (a + m) < nI (a + mRun M (nI q) (-1) (vL M - a) a)) := by
        rw [hS.cl hq ht, nI_lti (by omega) (by omega), nI_lti (by omega) (by omega)]
        exact ⟨fun z => ⟨hc, by omega⟩, fun z => by omega⟩
      by_cases hz : nI m < nI (mRun M (nI q) (-1) (vL M - a) a)
      · rw [if_pos hz, if_pos (e3.mp hz)]
        exact lg_eq hS hT hK hL h150 hq80 ht ha f (q + 1) _ _ (by omega) (by omega)
      · rw [if_neg hz, if_neg (fun z => hz (e3.mpr z))]
        exact lg_eq hS hT hK hL h150 hq80 ht ha f (q + 1) _ _ (by omega) hm
    · rw [if_neg hc, if_neg (fun z => absurd z (nI_pos (by omega))), if_neg (fun z => hc ((hS.cl hq ht).mp z.1))]
      exact lg_eq hS hT hK hL h150 hq80 ht ha f (q + 1) _ _ (by omega) hm
theorem lg_eq' {L a : Nat} {D M : am_D} {t : Int32} (hS : rS L D M) (hT : rT L D M) (hK : rK L D M) (hL : L ≤ 29) (h150 : vR M ≤ 150) (hq80 : dC D ≤ 80) (ht : dCl t) (ha : a ≤ L) : dLgF L D (nI a) t (dC D) 0 (-1) 0 = mLg M a t := by
  have := lg_eq hS hT hK hL h150 hq80 ht ha (dC D) 0 (-1) 0 (by omega) (by omega)
  unfold mLg
  rw [← hS.2.2.2.2.2.1]
  rwa [nI_0, Nat.add_zero] at this
