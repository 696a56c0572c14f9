/-! ===== desk and reference: the fewest changes ===== -/
theorem run_min {M : am_D} {p one : Int32} : ∀ (f g s : Nat), g ≤ f → mRun M p one g s = min (mRun M p one f s) g
  | f, 0, s, _ => by
    show 0 = _
    omega
  | 0, g + 1, s, h => absurd h (by omega)
  | f + 1, g + 1, s, h => by
    by_cases hf : mFr M p s one
    · rw [mRun_t hf, mRun_t hf, run_min f g (s + 1) (by omega)]
      omega
    · rw [mRun_f hf, mRun_f hf]
      omega
theorem few_eq {L b : Nat} {D M : am_D} {t : Int32} (hS : rS L D M) (hT : rT L D M) (hK : rK L D M) (hL : L ≤ 29) (h150 : vR M ≤ 150) (hq80 : dC D ≤ 80) (ht : dCl t) (hb : b ≤ L) : ∀ (f g x y n : Nat), (x = y ∨ b ≤ x ∧ b ≤ y) → x ≤ L → b ≤ x + f → b ≤ y + g → dFewF L D b t f (nI x) (nI n - 1) = mFewF M b t g y n
  | 0, g, x, y, n, h, hx, hf, hg => by
    have hby : b ≤ y := by omega
    cases g with
    | zero => rfl
    | succ g =>
      unfold dFewF mFewF
      rw [if_pos hby]
  | f + 1, 0, x, y, n, h, hx, hf, hg => by
    unfold dFewF mFewF
    rw [if_pos (by rw [nI_lei (by omega) (by omega)]; omega)]
  | f + 1, g + 1, x, y, n, h, hx, hf, hg => by
    unfold dFewF mFewF
    by_cases hby : b ≤ y
    · rw [if_pos (by rw [nI_lei (by omega) (by omega)]; omega), if_pos hby]
    · have hxy : x = y := by omega
      subst hxy
      have hvL : vL M = L := hS.1
      have hCC : dC D = vF M (vC M) := hS.2.2.2.2.2.1
      rw [if_neg (by rw [nI_lei (by omega) (by omega)]; omega), if_neg hby, lg_eq' hS hT hK hL h150 hq80 ht hx]
      rcases mLg_s (M := M) (a := x) (t := t) (by omega) (by omega) with h1 | ⟨q, hq, h1, hcl, hfr⟩
      · rw [h1, if_pos rfl, if_pos (by decide)]
      · have hq' : q < dC D := by omega
        have hn1 : ¬ D 2 q = -1 := by
          rw [(hS.cl hq' ht).mp hcl]
          exact dCl_m1 ht
        rw [h1, if_neg (nI_m1 (by omega)), if_neg (nI_pos (by omega)), nI_clamp (n := q) (by omega), sp_eq hT hK (rO_m1 h150) hL h150 hq' hq80 hn1 hx, nI_addA]
        have hr := (run_at (M := M) (p := nI q) (one := -1) (L - x) x).1
        have hmin := run_min (M := M) (p := nI q) (one := -1) (L - x) (b - x) x (by omega)
        have hpos := mRun_pos (f := L - x) hfr (by omega)
        rw [hmin]
        have e1 : nI n - 1 + 1 = nI (n + 1) - 1 := by
          rw [nI_pred, Int32.sub_add_cancel]
        rw [e1]
        exact few_eq hS hT hK hL h150 hq80 ht hb f g _ _ (n + 1) (by omega) (by omega) (by omega) (by omega)
