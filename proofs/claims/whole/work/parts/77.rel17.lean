/-! ===== desk and reference: fixed seats ===== -/
theorem sit_rel {L A r q : Nat} {D M : am_D} (h : Rel L A D M (some r)) (hr : r < vR M) (h6 : M 6 r = 1 ∨ M 6 r = 2) (hq : q < dC D) (hk : M 6 r = 1 → mK M q = M 9 r) (hf : ∀ s, va M r ≤ s → s < vb M r → ∀ r', r' < vR M → r' ≠ r → ¬ M 12 (29 * r' + s) = nI q) : Rel L A (dSit D r (nI q) (va M r) (vb M r)) (mSit M r (nI q)) none := by
  obtain ⟨n1, n2, n3, n4, n5, n6, n7, n8, n9⟩ := h.n
  obtain ⟨w1, w2, w3, w4, w5, w6, w7⟩ := h.V.w hr
  have h0 := h.I.x0 r hr rfl
  have hE : dE2 D (dSit D r (nI q) (va M r) (vb M r)) := dSit_e2
  have em : ∀ n j, n ≠ 12 → mSit M r (nI q) n j = M n j := fun n j z => mPut_ne z
  refine h.ride (h.G.c (em 0 1 (by omega)) (em 0 2 (by omega)) (em 0 8 (by omega)) (em 0 17 (by omega)) (fun j => em 1 j (by omega))) (mGR_of h.GR (zvR (em 0 8 (by omega))) (zvL (em 0 1 (by omega))) (fun j => em 7 j (by omega)) (fun j => em 8 j (by omega))) (hE.O h.O) ?_ (h.R.eq (hE.s (by omega) (by omega) (by omega) (by omega)) (fun i _ j _ => hE.rn i j) (em 0 8 (by omega)) (fun i _ n z1 z2 => em n i (by omega))) ?_ ?_ (rI_sit h.I (Or.inr rfl) hr h.GR (by omega) n4 (by omega) (by omega) h6 hk hf) (fun n j z1 z2 z3 _ => hE.s (by omega) (by omega) (by omega) (by omega)) (fun n j z => em n j (by omega))
  · exact sit_T h.T h.I.u h.V n1 hr h0 (by omega) (fun q' s => dSit_bt (by omega) (by omega) (by omega))
  · intro i hi s hs
    rw [show vR (mSit M r (nI q)) = vR M from vR_put] at hi
    rw [dSit_pn (by omega), mSit_row h.GR (by omega) hr (by omega), h.P i hi s hs]
    by_cases he : i = r
    · subst he
      rw [if_pos rfl, h0 s (by omega)]
      by_cases hz : va M i ≤ s ∧ s < vb M i
      · rw [if_pos hz, if_pos ⟨rfl, hz⟩]
      · rw [if_neg hz, if_neg (fun y => hz y.2)]
    · rw [if_neg he, if_neg (fun y => he y.1)]
  · exact (dSit_ne (by omega) (by unfold sd_pn; omega)).trans (h.m.trans (em 0 21 (by omega)).symm)
theorem mBeg_w {M : am_D} {t g hh : Int32} {x y : Nat} (hx : x ≤ 29) (hy : y ≤ 29) : va (mBeg M (nI x) (nI y) t g hh) (vR M) = x ∧ vb (mBeg M (nI x) (nI y) t g hh) (vR M) = y ∧ mBeg M (nI x) (nI y) t g hh 6 (vR M) = hh ∧ mBeg M (nI x) (nI y) t g hh 9 (vR M) = t := by
  refine ⟨?_, ?_, ?_, ?_⟩
  · unfold va
    rw [mBeg_at (by omega), am_up_at (by omega), am_up_at (by omega), am_up_at (by omega), am_up_at (by omega), am_up_same]
    exact nI_clamp (by omega)
  · unfold vb
    rw [mBeg_at (by omega), am_up_at (by omega), am_up_at (by omega), am_up_at (by omega), am_up_same]
    exact nI_clamp (by omega)
  · rw [mBeg_at (by omega), am_up_at (by omega), am_up_at (by omega), am_up_at (by omega), am_up_at (by omega), am_up_at (by omega), am_up_same]
  · rw [mBeg_at (by omega), am_up_at (by omega), am_up_at (by omega), am_up_same]
theorem mBeg_row {M : am_D} {a b t g hh : Int32} {k s : Nat} (hs : s < 29) : mBeg M a b t g hh 12 (29 * k + s) = if k = vR M then -1 else M 12 (29 * k + s) := by
  unfold mBeg mStd
  rw [mPut_row hs]
  by_cases hk : k = vR M
  · rw [if_pos hk, if_pos hk]
    rfl
  · rw [if_neg hk, if_neg hk, am_up_at (by omega), am_up_at (by omega), am_up_at (by omega), am_up_at (by omega), am_up_at (by omega), am_up_at (by omega), am_up_at (by omega)]
theorem bf_rel {L A x y q : Nat} {D M : am_D} {t : Int32} (h : Rel L A D M none) (h150 : vR M < 150) (hxy : x < y) (hy : y ≤ L) (hq : q < dC D) (hc : D 2 q = t) (ht : dCl t) (hf : mFT M (nI q) x y (-1)) : Rel L (max A (dR D + 1)) (dBF L A D x y q) (mSit (mBeg M (nI x) (nI y) t (-1) 2) (vR M) (nI q)) none := by
  obtain ⟨n1, n2, n3, n4, n5, n6, n7, n8, n9⟩ := h.n
  have he := enter_rel (g := -1) h h150 hxy hy ht (Or.inr rfl)
  obtain ⟨b1, b2, b3, b4, b5, b6⟩ := mBeg.all (t := t) (g := -1) (h := 2) h.G h.GR h150 hxy (by omega)
  obtain ⟨v1, v2, v3, v4⟩ := mBeg_w (M := M) (t := t) (g := -1) (hh := 2) (x := x) (y := y) (by omega) (by omega)
  have em : ∀ n j, 14 ≤ n → mBeg M (nI x) (nI y) t (-1) 2 n j = M n j := fun n j z => by
    rw [mBeg_at (by omega), am_up_at (by omega), am_up_at (by omega), am_up_at (by omega), am_up_at (by omega), am_up_at (by omega), am_up_at (by omega), am_up_at (by omega)]
  have hs := sit_rel (q := q) he (by omega) (Or.inr v3) (by have := he.n.2.2.2.2.1; rw [this, b6, zvF (fun j => by rw [mBeg_at (by omega), am_up_at (by omega), am_up_at (by omega), am_up_at (by omega), am_up_at (by omega), am_up_at (by omega), am_up_at (by omega), am_up_at (by omega)])]; omega) (fun z => by rw [v3] at z; exact absurd z (by decide)) (fun s s1 s2 r hr k1 k2 => by
    rw [v1] at s1
    rw [v2] at s2
    obtain ⟨z1, z2⟩ := hf s s1 s2
    rw [mBeg_row (by omega), if_neg k1] at k2
    exact z2 r (by omega) ⟨nI_m1 (by omega), k2⟩)
  rw [v1, v2, ← n7, ← hc] at hs
  unfold dBF
  rw [← hc, ← n7]
  exact hs
theorem seatIn_c {L A q : Nat} {D M : am_D} {xx : Option Nat} {c s : Int32} (h : Rel L A D M xx) (he : mSeatIn M c s = nI q) (hq : q < 80) : q < dC D ∧ D 2 q = M 2 c.toNatClampNeg ∧ dCl (D 2 q) ∧ mCo M q = c.toNatClampNeg ∧ c.toNatClampNeg < vC M ∧ M 3 c.toNatClampNeg = 0 := by
  obtain ⟨n1, n2, n3, n4, n5, n6, n7, n8, n9⟩ := h.n
  rcases mSeatIn_s h.G c s with e | ⟨c', q', e1, e2, e3, e, e5, e6, e7, e8⟩
  · rw [e] at he
    exact absurd he.symm (nI_m1 (by omega))
  · have h80 := h.G.2.2.2.2.2.2.2.2.2.2.2.2
    rw [e, nI_inji (by omega) (by omega)] at he
    subst he
    have hco := mCo_u h.G e2 e5 e6
    have ec : c.toNatClampNeg = c' := by rw [e1]; exact nI_clamp (by omega)
    have h7 := h.S.2.2.2.2.2.2.1 q' (by omega)
    rw [hco, if_pos e3] at h7
    rw [ec]
    refine ⟨by omega, h7, ?_, hco, e2, e3⟩
    rw [h7]
    rcases h.S.2.2.2.2.2.2.2.2.2 c' e2 with z | z <;> rw [z] <;> exact ⟨by decide, by decide⟩
theorem wrong_i {L A : Nat} {D M : am_D} {x : Option Nat} {a b t n : Int32} (h : Rel L A D M x) : mWrong M a b t n ↔ dBad L D a b n ∨ ¬ dCl t := by
  obtain ⟨n1, n2, n3, n4, n5, n6, n7, n8, n9⟩ := h.n
  have e : D 0 4 = M 0 8 := by rw [h.O.2.2.2.1, n7, h.G.2.2.2.2.2.1]
  unfold mWrong dBad
  have e2 : (M 0 8 + n ≤ 150) ↔ ¬ 150 < M 0 8 + n := Int32.not_lt.symm
  rw [way_i h.M1 n3, e, dCl_i, e2]
  constructor
  · rintro (z | z | z | z)
    · exact Or.inl (fun w => z w.1)
    · exact Or.inr (Or.inl z)
    · exact Or.inr (Or.inr z)
    · exact Or.inl (fun w => w.2 z)
  · rintro (z | z | z)
    · by_cases hw : ¬ a < 0 ∧ a < b ∧ b ≤ nI L
      · exact Or.inr (Or.inr (Or.inr (Classical.not_not.mp (fun w => z ⟨hw, w⟩))))
      · exact Or.inl hw
    · exact Or.inr (Or.inl z)
    · exact Or.inr (Or.inr (Or.inl z))
/-! ===== groups ===== -/
theorem gr_eq {L x y z R : Nat} {t : Int32} (hxy : x < y) (hy : y ≤ L) (ht : dCl t) (hRz : R + z ≤ 150) : ∀ (f q s A : Nat) (D M : am_D), Rel L A D M none → vR M = R + s → q + f ≤ dC D → (∀ u, q ≤ u → u < q + f → D 2 u = t) → Rel L (dGrF L x y z (wayI (nI x) (nI y)) f q s A D).1 (dGrF L x y z (wayI (nI x) (nI y)) f q s A D).2 (mGrF x y t (R + z) f q M) none
  | 0, q, s, A, D, M, h, _, _, _ => h
  | f + 1, q, s, A, D, M, h, hR, hq, hc => by
    obtain ⟨n1, n2, n3, n4, n5, n6, n7, n8, n9⟩ := h.n
    have hc0 : D 2 q = t := hc q (Nat.le_refl _) (by omega)
    have hfr := ft_eq (a := x) (b := y) (q := q) h.T h.K (rO_m1 n4) n3 n4 (by omega) n6 (by rw [hc0]; exact dCl_m1 ht) (by omega) hy
    unfold dGrF mGrF
    by_cases hs : s < z
    · rw [if_pos hs, if_pos (show vR M < R + z by omega)]
      by_cases hf : mFT M (nI q) x y (-1)
      · rw [if_pos hf, if_pos (hfr.mp hf)]
        have hb := bf_rel h (by omega) hxy hy (show q < dC D by omega) hc0 ht hf
        have b3 := (mBeg.all (t := t) (g := -1) (h := 2) h.G h.GR (by omega) hxy (show y ≤ vL M by omega)).2.2.1
        have eb : ∀ n j, 1 ≤ n → n ≤ 2 → dBF L A D x y q n j = D n j := fun n j z1 z2 => dBF_ne (by unfold sd_rn; omega) (by unfold sd_pn; omega) (by omega) (by omega) (by omega)
        refine gr_eq hxy hy ht hRz f (q + 1) (s + 1) _ _ _ hb ?_ ?_ (fun u u1 u2 => ?_)
        · rw [show vR (mSit (mBeg M (nI x) (nI y) t (-1) 2) (vR M) (nI q)) = vR (mBeg M (nI x) (nI y) t (-1) 2) from vR_put, b3]
          omega
        · rw [zdC (eb 1 1 (by omega) (by omega))]
          omega
        · rw [eb 2 u (by omega) (by omega)]
          exact hc u (by omega) (by omega)
      · rw [if_neg hf, if_neg (fun w => hf (hfr.mpr w))]
        exact gr_eq hxy hy ht hRz f (q + 1) s A D M h hR (by omega) (fun u u1 u2 => hc u (by omega) (by omega))
    · rw [if_neg hs, if_neg (show ¬ vR M < R + z by omega)]
      exact h
theorem Rel.F {L A c : Nat} {D M : am_D} {x : Option Nat} (h : Rel L A D M x) (hc : c ≤ vC M) : dF D c = vF M c := by
  unfold dF vF
  rw [h.S.2.2.1 c hc]
theorem grw_eq {L A x y : Nat} {D M : am_D} {t : Int32} {xx : Option Nat} (h : Rel L A D M xx) (ht : dCl t) (hxy : x < y) (hy : y ≤ L) (c : Nat) (hc : c < vC M) : dCwN D t (wayI (nI x) (nI y)) c = mGrC M x y t c := by
  obtain ⟨n1, n2, n3, n4, n5, n6, n7, n8, n9⟩ := h.n
  unfold dCwN mGrC
  have h1 := h.G.mono (show c ≤ c + 1 by omega) (by omega)
  have h2 := h.G.mono (show c + 1 ≤ vC M by omega) (by omega)
  rw [h.F (show c + 1 ≤ vC M by omega), h.F (show c ≤ vC M by omega)]
  exact cntf_eq h ht (by omega) hy _ _ _ (by omega)
theorem am_cnt_pos {p : Nat → Prop} : ∀ (f i acc : Nat), acc < am_cnt p f i acc → ∃ j, i ≤ j ∧ j < i + f ∧ p j
  | 0, i, acc, h => absurd h (Nat.lt_irrefl acc)
  | f + 1, i, acc, h => by
    by_cases hp : p i
    · exact ⟨i, Nat.le_refl _, by omega, hp⟩
    · rw [am_cnt_f hp] at h
      obtain ⟨j, h1, h2, h3⟩ := am_cnt_pos f (i + 1) acc h
      exact ⟨j, by omega, by omega, h3⟩
theorem grp_c {L A x y c n : Nat} {D M : am_D} {t : Int32} {xx : Option Nat} (h : Rel L A D M xx) (ht : dCl t) (hc : c < vC M) (hn : 1 ≤ n) (hg : n ≤ mGrC M x y t c) : ∀ u, vF M c ≤ u → u < vF M (c + 1) → D 2 u = t := by
  obtain ⟨n1, n2, n3, n4, n5, n6, n7, n8, n9⟩ := h.n
  have h1 := h.G.mono (show c ≤ c + 1 by omega) (by omega)
  have h2 := h.G.mono (show c + 1 ≤ vC M by omega) (by omega)
  unfold mGrC at hg
  obtain ⟨j, j1, j2, j3, j4⟩ := am_cnt_pos _ _ _ (Nat.lt_of_lt_of_le (show 0 < n by omega) hg)
  unfold mCl at j3
  rw [mCo_u h.G hc j1 (by omega)] at j3
  intro u u1 u2
  rw [h.S.2.2.2.2.2.2.1 u (by omega), mCo_u h.G hc u1 u2, if_pos j3.1]
  exact j3.2
