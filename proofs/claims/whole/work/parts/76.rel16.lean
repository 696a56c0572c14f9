/-! ===== desk and reference: booking ===== -/
theorem enter_rel {L A x y : Nat} {D M : am_D} {t g hh : Int32} (h : Rel L A D M none) (h150 : vR M < 150) (hxy : x < y) (hy : y ≤ L) (ht : dCl t) (hh1 : hh = 1 ∨ hh = 2) : Rel L (max A (dR D + 1)) (am_up (dEnter L A D (nI x) (nI y) t g) (sd_rn (dR D)) 6 hh) (mBeg M (nI x) (nI y) t g hh) (some (vR M)) := by
  obtain ⟨n1, n2, n3, n4, n5, n6, n7, n8, n9⟩ := h.n
  have hd150 : dR D < 150 := by omega
  obtain ⟨b1, b2, b3, b4, b5, b6⟩ := mBeg.all (t := t) (g := g) (h := hh) h.G h.GR h150 hxy (by omega)
  have hO := dEnter_O (a := nI x) (b := nI y) (t := t) (g := g) h.O hd150
  obtain ⟨e04, eR⟩ := dEnter_R (L := L) (A := A) (D := D) (a := nI x) (b := nI y) (t := t) (g := g) hd150
  obtain ⟨e2, e3, e4, e5, e6, e7⟩ := dEnter_rn (L := L) (A := A) (D := D) (a := nI x) (b := nI y) (t := t) (g := g)
  have epn := fun s (hs : s < L) => dEnter_pn (L := L) (A := A) (D := D) (a := nI x) (b := nI y) (t := t) (g := g) hs
  have en := fun n j (h1 : n ≠ sd_rn (dR D)) (h2 : n ≠ sd_pn (dR D)) (h3 : ¬ (n = 0 ∧ j = 4)) (h4 : ¬ (n = 12 ∧ j = dR D)) => dEnter_ne (L := L) (A := A) (D := D) (a := nI x) (b := nI y) (t := t) (g := g) h1 h2 h3 h4
  rw [n7] at *
  have up : ∀ n j, ¬ (n = sd_rn (vR M) ∧ j = 6) → am_up (dEnter L A D (nI x) (nI y) t g) (sd_rn (vR M)) 6 hh n j = dEnter L A D (nI x) (nI y) t g n j := fun n j z => am_up_at z
  have up6 : am_up (dEnter L A D (nI x) (nI y) t g) (sd_rn (vR M)) 6 hh (sd_rn (vR M)) 6 = hh := am_up_same
  have em : ∀ n j, n ≠ 12 → ¬ (n = 0 ∧ j = 8) → ¬ (6 ≤ n ∧ n ≤ 11 ∧ j = vR M) → mBeg M (nI x) (nI y) t g hh n j = M n j := fun n j z1 z2 z3 => by
    rw [mBeg_at z1, am_up_at (by omega), am_up_at (by omega), am_up_at (by omega), am_up_at (by omega), am_up_at (by omega), am_up_at (by omega), am_up_at (by omega)]
  have m6 : mBeg M (nI x) (nI y) t g hh 6 (vR M) = hh := by
    rw [mBeg_at (by omega), am_up_at (by omega), am_up_at (by omega), am_up_at (by omega), am_up_at (by omega), am_up_at (by omega), am_up_same]
  have m7 : mBeg M (nI x) (nI y) t g hh 7 (vR M) = nI x := by
    rw [mBeg_at (by omega), am_up_at (by omega), am_up_at (by omega), am_up_at (by omega), am_up_at (by omega), am_up_same]
  have m8 : mBeg M (nI x) (nI y) t g hh 8 (vR M) = nI y := by
    rw [mBeg_at (by omega), am_up_at (by omega), am_up_at (by omega), am_up_at (by omega), am_up_same]
  have m9 : mBeg M (nI x) (nI y) t g hh 9 (vR M) = t := by
    rw [mBeg_at (by omega), am_up_at (by omega), am_up_at (by omega), am_up_same]
  have m10 : mBeg M (nI x) (nI y) t g hh 10 (vR M) = g := by
    rw [mBeg_at (by omega), am_up_at (by omega), am_up_same]
  have m11 : mBeg M (nI x) (nI y) t g hh 11 (vR M) = 0 := by
    rw [mBeg_at (by omega), am_up_same]
  have m12 : ∀ k s, s < 29 → mBeg M (nI x) (nI y) t g hh 12 (29 * k + s) = if k = vR M then -1 else M 12 (29 * k + s) := fun k s hs => by
    unfold mBeg mStd
    rw [mPut_row hs]
    by_cases hk : k = vR M
    · rw [if_pos hk, if_pos hk]
      rfl
    · rw [if_neg hk, if_neg hk, am_up_at (by omega), am_up_at (by omega), am_up_at (by omega), am_up_at (by omega), am_up_at (by omega), am_up_at (by omega), am_up_at (by omega)]
  generalize hE : dEnter L A D (nI x) (nI y) t g = E at *
  generalize hD' : am_up E (sd_rn (vR M)) 6 hh = D' at *
  generalize mBeg M (nI x) (nI y) t g hh = M' at *
  have es : ∀ n j, n ≤ 20 → ¬ (n = 0 ∧ j = 4) → ¬ (n = 12 ∧ j = vR M) → D' n j = D n j := fun n j z z1 z2 => by
    rw [up n j (fun w => by have := w.1; unfold sd_rn at this; omega)]
    exact en n j (by unfold sd_rn; omega) (by unfold sd_pn; omega) z1 z2
  have er : ∀ k j, k ≠ vR M → D' (sd_rn k) j = D (sd_rn k) j := fun k j z => by
    rw [up _ j (fun w => sd_rr z w.1)]
    exact en _ j (sd_rr z) (sd_ne _ _) (by unfold sd_rn; omega) (by unfold sd_rn; omega)
  have ep : ∀ k j, k ≠ vR M → D' (sd_pn k) j = D (sd_pn k) j := fun k j z => by
    rw [up _ j (fun w => sd_ne _ _ w.1.symm)]
    exact en _ j (fun w => sd_ne _ _ w.symm) (sd_pp z) (by unfold sd_pn; omega) (by unfold sd_pn; omega)
  have mi : ∀ s, s < 29 → M' 12 (29 * vR M + s) = -1 := fun s hs => by rw [m12 _ s hs, if_pos rfl]
  have mo : ∀ k, k ≠ vR M → ∀ s, s < 29 → M' 12 (29 * k + s) = M 12 (29 * k + s) := fun k hk s hs => by rw [m12 k s hs, if_neg hk]
  have eF : vF M (vC M) ≤ vF M' (vC M') := by
    rw [zvF (fun j => em 1 j (by omega) (by omega) (by omega)), zvC (em 0 2 (by omega) (by omega) (by omega))]
    exact Nat.le_refl _
  have up4 : D' 0 4 = E 0 4 := up 0 4 (fun w => by have := w.1; unfold sd_rn at this; omega)
  refine h.ride b1 b2 (hO.eq (up 0 0 (fun w => by have := w.1; unfold sd_rn at this; omega)) up4 (fun j => up 12 j (fun w => by have := w.1; unfold sd_rn at this; omega)) (fun j => up 13 j (fun w => by have := w.1; unfold sd_rn at this; omega)) (fun k => ⟨up _ 0 (by omega), up _ 1 (by omega)⟩)) ?_ ?_ ?_ ((es 0 6 (by omega) (by omega) (by omega)).trans (h.m.trans (em 0 21 (by omega) (by omega) (by omega)).symm)) ?_ (fun n j z0 z z5 z12 => es n j (by omega) (by omega) (by omega)) (fun n j z => em n j (by omega) (by omega) (by omega))
  · refine rT_new (r := vR M) h.T h.I.u n3 (by omega) (fun k hk => by omega) (fun k _ hn s hs => mo k hn s hs) (fun q hq s hs => ?_)
    rw [es 5 q (by omega) (by omega) (by omega), mi s (by omega)]
    exact ⟨fun z => Or.inl ⟨z, fun w => by omega⟩, fun z => z.elim (fun w => w.1) (fun w => absurd w.symm (nI_m1 (by omega)))⟩
  · refine rR_new (r := vR M) h.R ?_ (fun k hk hn => by omega) (fun k hk hn => ⟨fun j => er k j hn, fun n z1 z2 => em n k (by omega) (by omega) (fun w => hn w.2.2)⟩) ⟨?_, ?_, ?_, ?_, by rw [up6, m6], ?_⟩
    · rw [b3, ← eR]
      unfold dR
      rw [up4]
    · rw [up _ 2 (by omega), e2, m7]
    · rw [up _ 3 (by omega), e3, m8]
    · rw [up _ 4 (by omega), e4, m9]
    · rw [up _ 5 (by omega), e5, m10]
    · rw [up _ 7 (by omega), e7, m11]
  · refine rP_new (r := vR M) h.P n3 (fun k hk hn => by omega) (fun k hk hn => ⟨fun s _ => ep k s hn, fun s hs => mo k hn s hs⟩) (fun s hs => ?_)
    rw [up _ s (fun w => sd_ne _ _ w.1.symm), epn s hs, mi s (by omega)]
  · exact rI_new (r := vR M) h.I (fun k hk hn => by omega) eF (fun q _ => zmK (fun j => em 1 j (by omega) (by omega) (by omega)) (fun j => em 2 j (by omega) (by omega) (by omega))) (fun k hk hn => ⟨em 6 k (by omega) (by omega) (by omega), em 7 k (by omega) (by omega) (by omega), em 8 k (by omega) (by omega) (by omega), em 9 k (by omega) (by omega) (by omega), fun s hs => mo k hn s hs⟩) (by rw [m9]; exact ht) (by rw [m6]; rcases hh1 with rfl | rfl <;> simp) (fun s hs => Or.inl (mi s hs)) (fun s hs q hq z => by rw [mi s hs] at z; exact absurd z.symm (nI_m1 (by omega))) (fun _ => mi) (fun _ z => absurd rfl z) (fun _ => mi) (fun k hk hn => ⟨fun w => absurd (Option.some.inj w) hn, fun w => absurd w (by simp)⟩)
theorem Rel.back {L A R : Nat} {D M : am_D} (h : Rel L A D M (some R)) (hR : vR M = R + 1) : Rel L A (am_up D 0 4 (nI R)) (am_up M 0 8 (nI R)) none := by
  obtain ⟨n1, n2, n3, n4, n5, n6, n7, n8, n9⟩ := h.n
  have hdA : dR D ≤ A := h.O.2.2.2.2.1
  have ed : ∀ n j, ¬ (n = 0 ∧ j = 4) → am_up D 0 4 (nI R) n j = D n j := fun n j z => am_up_at z
  have em : ∀ n j, ¬ (n = 0 ∧ j = 8) → am_up M 0 8 (nI R) n j = M n j := fun n j z => am_up_at z
  have eR : vR (am_up M 0 8 (nI R)) = R := by
    unfold vR
    rw [am_up_same]
    exact nI_clamp (by omega)
  have edR : dR (am_up D 0 4 (nI R)) = R := by
    unfold dR
    rw [am_up_same]
    exact nI_clamp (by omega)
  have hOl := h.O.less (R := R) (by omega)
  have m8 : am_up M 0 8 (nI R) 0 8 = nI R := am_up_same
  generalize am_up D 0 4 (nI R) = D' at *
  generalize am_up M 0 8 (nI R) = M' at *
  have er : ∀ k j, D' (sd_rn k) j = D (sd_rn k) j := fun k j => ed _ j (by unfold sd_rn; omega)
  have ep : ∀ k j, D' (sd_pn k) j = D (sd_pn k) j := fun k j => ed _ j (by unfold sd_pn; omega)
  have hG := mG_of (R := R) (B := vB M) h.G (em 0 1 (by omega)) (em 0 2 (by omega)) m8 (by omega) ((em 0 17 (by omega)).trans h.G.2.2.2.2.2.2.2.1) h.G.2.2.2.2.2.2.2.2.1 (fun j => em 1 j (by omega))
  have ea : ∀ k, va M' k = va M k := fun k => zva (em 7 k (by omega))
  have eb : ∀ k, vb M' k = vb M k := fun k => zvb (em 8 k (by omega))
  have eF : vF M' (vC M') = vF M (vC M) := by rw [zvF (fun j => em 1 j (by omega)), zvC (em 0 2 (by omega))]
  have e12 : ∀ j, M' 12 j = M 12 j := fun j => em 12 j (by omega)
  refine h.ride hG.1 (fun k hk => ?_) hOl ?_ ?_ ?_ ((ed 0 6 (by omega)).trans (h.m.trans (em 0 21 (by omega)).symm)) ?_ (fun n j _ _ _ _ => ed n j (by omega)) (fun n j z => em n j (by omega))
  · rw [em 7 k (by omega), em 8 k (by omega), ea, eb, hG.2.1]
    exact h.GR k (by omega)
  · intro q hq s hs
    rw [ed 5 q (by omega), h.T q hq s hs]
    constructor
    · rintro ⟨r, z1, z2⟩
      refine ⟨r, ?_, by rw [e12]; exact z2⟩
      by_cases he : r = R
      · rw [h.I.x0 r z1 (by rw [he]) s (by omega)] at z2
        exact absurd z2.symm (nI_m1 (by omega))
      · omega
    · rintro ⟨r, z1, z2⟩
      exact ⟨r, by omega, by rw [← e12]; exact z2⟩
  · refine ⟨by omega, fun k hk => ?_⟩
    rw [er, er, er, er, er, er, em 7 k (by omega), em 8 k (by omega), em 9 k (by omega), em 10 k (by omega), em 6 k (by omega), em 11 k (by omega)]
    exact h.R.2 k (by omega)
  · intro k hk s hs
    rw [ep, e12]
    exact h.P k (by omega) s hs
  · refine ⟨fun k hk => ?_, fun k hk => ?_, fun k hk s hs => ?_, fun r1 r2 s q z1 z2 hs hq z3 z4 => ?_, fun k hk z s hs => ?_, fun k hk z _ => ?_, fun k hk z => absurd z (by simp)⟩
    · rw [em 6 k (by omega)]
      exact h.I.st k (by omega)
    · rw [em 9 k (by omega)]
      exact h.I.cl k (by omega)
    · rw [e12, ea, eb, eF]
      exact h.I.w k (by omega) s hs
    · rw [e12] at z3 z4
      exact h.I.u r1 r2 s q (by omega) (by omega) hs hq z3 z4
    · rw [em 6 k (by omega)] at z
      rw [e12]
      exact h.I.no k (by omega) z s hs
    · rw [em 6 k (by omega)] at z
      rw [ea, eb, eF, em 9 k (by omega)]
      obtain ⟨q, z1, z0, z2⟩ := h.I.mv k (by omega) z (fun w => by have := Option.some.inj w; omega)
      exact ⟨q, z1, by rw [zmK (fun j => em 1 j (by omega)) (fun j => em 2 j (by omega))]; exact z0, fun s hs s1 s2 => by rw [e12]; exact z2 s hs s1 s2⟩
theorem place_rel {L A r : Nat} {D M : am_D} (h : Rel L A D M (some r)) (hr : r < vR M) (h1 : M 6 r = 1) : (dPlace L D r).2 = (mPlace M r).2 ∧ ((mPlace M r).2 = true → Rel L A (dPlace L D r).1 (mPlace M r).1 none) ∧ (¬ (mPlace M r).2 = true → Rel L A (dPlace L D r).1 (mPlace M r).1 (some r)) := by
  obtain ⟨c1, c2, c3, c4, c5, c6⟩ := place_eq h.S h.T h.K h.V h.P h.I (fun i hi => by rw [(h.R.2 i hi).2.2.2.2.1]) h.m hr h1
  obtain ⟨p1, p2, p3, p4, p5⟩ := mPlace.all (r := r) h.G h.GR
  have hE : dE2 D (dPlace L D r).1 := dPlace_e2
  have em : ∀ n j, n ≠ 12 → n ≠ 13 → ¬ (n = 0 ∧ j = 21) → (mPlace M r).1 n j = M n j := fun n j => mPlace_at
  have hR : rR (dPlace L D r).1 (mPlace M r).1 := h.R.eq (hE.s (by omega) (by omega) (by omega) (by omega)) (fun i _ j _ => hE.rn i j) (em 0 8 (by omega) (by omega) (by omega)) (fun i _ n z1 z2 => em n i (by omega) (by omega) (by omega))
  refine ⟨c1, fun hz => ?_, fun hz => ?_⟩
  · exact h.ride p1 p2 (hE.O h.O) c2 hR c3 c4 (c5 hz) (fun n j z1 z2 z3 _ => hE.s (by omega) (by omega) (by omega) (by omega)) (fun n j z => em n j (by omega) (by omega) (by omega))
  · exact h.ride p1 p2 (hE.O h.O) c2 hR c3 c4 (c6 hz).1 (fun n j z1 z2 z3 _ => hE.s (by omega) (by omega) (by omega) (by omega)) (fun n j z => em n j (by omega) (by omega) (by omega))
theorem dSweep_e2 {L : Nat} {D : am_D} {t : Int32} {bt : Option Nat} : dE2 D (dSweep L D t bt).1 := dSw_e2
theorem sweep_rel {L A : Nat} {D M : am_D} {t : Int32} (h : Rel L A D M none) (ht : dCl t) : (dSweep L D t none).2 = (mSweep M t (-1)).2 ∧ Rel L A (dSweep L D t none).1 (mSweep M t (-1)).1 none ∧ (¬ (mSweep M t (-1)).2 = true → ∀ j, (mSweep M t (-1)).1 12 j = M 12 j) := by
  obtain ⟨n1, n2, n3, n4, n5, n6, n7, n8, n9⟩ := h.n
  obtain ⟨c1, c2, c3, c4, c5, c6⟩ := sweep_eq (t := t) (one := -1) (bt := none) ht h.S h.T h.K h.V h.P h.I (fun i hi => by rw [(h.R.2 i hi).2.2.2.2.1]) h.m (fun r hr => ⟨fun z => absurd z (nI_m1 (by omega)), fun z => absurd z (by simp)⟩) (fun r z => absurd z (by simp))
  obtain ⟨p1, p2, p3, p4, p5⟩ := mSweep.all (t := t) (one := -1) h.G h.GR
  have hE : dE2 D (dSweep L D t none).1 := dSweep_e2
  have em : ∀ n j, n ≠ 12 → n ≠ 13 → ¬ (n = 0 ∧ j = 21) → (mSweep M t (-1)).1 n j = M n j := fun n j => mSweep_at
  have hI : rI (mSweep M t (-1)).1 none := by
    by_cases hz : (mSweep M t (-1)).2 = true
    · exact c5 hz
    · exact (c6 hz).1
  exact ⟨c1, h.ride p1 p2 (hE.O h.O) c2 (h.R.eq (hE.s (by omega) (by omega) (by omega) (by omega)) (fun i _ j _ => hE.rn i j) (em 0 8 (by omega) (by omega) (by omega)) (fun i _ n z1 z2 => em n i (by omega) (by omega) (by omega))) c3 c4 hI (fun n j z1 z2 z3 _ => hE.s (by omega) (by omega) (by omega) (by omega)) (fun n j z => em n j (by omega) (by omega) (by omega)), fun hz => (c6 hz).2⟩
theorem bookFor_eq {L A x y : Nat} {D M : am_D} {t g : Int32} (h : Rel L A D M none) (h150 : vR M < 150) (hxy : x < y) (hy : y ≤ L) (ht : dCl t) : (dBM L A D x y t g).1 = (mBookFor M g x y t).1 ∧ Rel L (max A (dR D + 1)) (dBM L A D x y t g).2 (mBookFor M g x y t).2 none := by
  obtain ⟨n1, n2, n3, n4, n5, n6, n7, n8, n9⟩ := h.n
  have he := enter_rel (g := g) h h150 hxy hy ht (Or.inl rfl)
  rw [am_up_id (dEnter_rn.2.2.2.2.1)] at he
  have b3 := (mBeg.all (t := t) (g := g) (h := 1) h.G h.GR h150 hxy (by omega : y ≤ vL M)).2.2.1
  have m6 : mBeg M (nI x) (nI y) t g 1 6 (vR M) = 1 := by
    rw [mBeg_at (by omega), am_up_at (by omega), am_up_at (by omega), am_up_at (by omega), am_up_at (by omega), am_up_at (by omega), am_up_same]
  obtain ⟨p1, p2, p3⟩ := place_rel he (by omega) m6
  unfold dBM mBookFor
  rw [n7] at *
  rw [p1]
  by_cases hz : (mPlace (mBeg M (nI x) (nI y) t g 1) (vR M)).2 = true
  · rw [if_pos hz, if_pos hz]
    exact ⟨rfl, p2 hz⟩
  · rw [if_neg hz, if_neg hz]
    have hb := (p3 hz).back (by rw [(mPlace.all (r := vR M) he.G he.GR).2.2.1]; exact b3)
    refine ⟨?_, hb⟩
    have hr := room_eq (a := x) (b := y) (t := t) hb.S hb.R hb.I.st ht
    by_cases hf : mFull (am_up (mPlace (mBeg M (nI x) (nI y) t g 1) (vR M)).1 0 8 (nI (vR M))) x y t
    · have : ¬ dRoom (am_up (dPlace L (dEnter L A D (nI x) (nI y) t g) (vR M)).1 0 4 (nI (vR M))) x y t := fun z => hr.mp z hf
      dsimp only
      rw [if_neg this, if_pos hf]
    · dsimp only
      rw [if_pos (hr.mpr hf), if_neg hf]
