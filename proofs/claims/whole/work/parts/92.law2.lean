/-! ===== the law: how many blocks a call may leave ===== -/
theorem b17_T {M : am_D} : mT M 0 17 = M 0 17 := mT_ne (by omega)
theorem b17_coach {M : am_D} {t n : Int32} : (mCoach M t n).2 0 17 = M 0 17 := by
  unfold mCoach
  by_cases h : t < 0 ∨ 1 < t ∨ n < 1 ∨ 20 < n ∨ M 0 2 = 8 ∨ 80 < M 1 (vC M) + n
  · rw [if_pos h]
    exact b17_T
  · rw [if_neg h]
    try dsimp only
    rw [am_up_at (by omega), am_up_at (by omega), am_up_at (by omega)]
    exact b17_T
theorem b17_flags {M : am_D} {c s m : Int32} : (mFlags M c s m).2 0 17 = M 0 17 := by
  unfold mFlags
  by_cases h : mSeatIn (mT M) c s < 0 ∨ m < 0 ∨ 255 < m
  · rw [if_pos h]
    exact b17_T
  · rw [if_neg h]
    try dsimp only
    rw [am_up_at (by omega), b17_T]
theorem b17_quota {M : am_D} {s g n : Int32} : (mQuota M s g n).2 0 17 = M 0 17 := by
  unfold mQuota
  by_cases h : s < 0 ∨ nI (vL M) ≤ s ∨ g < 0 ∨ 3 < g ∨ n < 0 ∨ 150 < n
  · rw [if_pos h]
    exact b17_T
  · rw [if_neg h]
    try dsimp only
    rw [am_up_at (by omega), b17_T]
theorem b17_beg {M : am_D} {a b t g h : Int32} : mBeg M a b t g h 0 17 = M 0 17 := by
  rw [mBeg_at (by omega), am_up_at (by omega), am_up_at (by omega), am_up_at (by omega), am_up_at (by omega), am_up_at (by omega), am_up_at (by omega), am_up_at (by omega)]
theorem b17_sit {M : am_D} {r : Nat} {p : Int32} : mSit M r p 0 17 = M 0 17 := mPut_ne (by omega)
theorem b17_for {M : am_D} {g t : Int32} {a b : Nat} : (mBookFor M g a b t).2 0 17 = M 0 17 := by
  unfold mBookFor
  by_cases h : (mPlace (mBeg M (nI a) (nI b) t g 1) (vR M)).2 = true
  · rw [if_pos h]
    try dsimp only
    rw [mPlace_at (by omega) (by omega) (by omega), b17_beg]
  · rw [if_neg h]
    try dsimp only
    rw [am_up_at (by omega), mPlace_at (by omega) (by omega) (by omega), b17_beg]
theorem b17_book {M : am_D} {a b t : Int32} : (mBook M a b t).2 0 17 = M 0 17 := by
  unfold mBook
  by_cases h : mWrong (mT M) a b t 1
  · rw [if_pos h]
    exact b17_T
  · rw [if_neg h, b17_for]
    exact b17_T
theorem b17_agBook {M : am_D} {g a b t : Int32} : (mAgBook M g a b t).2 0 17 = M 0 17 := by
  unfold mAgBook
  by_cases h : g < 0 ∨ 3 < g ∨ mWrong (mT M) a b t 1
  · rw [if_pos h]
    exact b17_T
  · rw [if_neg h]
    by_cases h2 : mOver (mT M) g.toNatClampNeg a.toNatClampNeg b.toNatClampNeg
    · rw [if_pos h2]
      exact b17_T
    · rw [if_neg h2, b17_for]
      exact b17_T
theorem b17_bkSeat {M : am_D} {a b c s : Int32} : (mBkSeat M a b c s).2 0 17 = M 0 17 := by
  unfold mBkSeat
  by_cases h : mSeatIn (mT M) c s < 0 ∨ mWrong (mT M) a b 0 1
  · rw [if_pos h]
    exact b17_T
  · rw [if_neg h]
    by_cases h2 : mFT (mT M) (mSeatIn (mT M) c s) a.toNatClampNeg b.toNatClampNeg (-1)
    · rw [if_pos h2]
      try dsimp only
      rw [b17_sit, b17_beg, b17_T]
    · rw [if_neg h2]
      exact b17_T
theorem b17_grF {a b lim : Nat} {t : Int32} : ∀ (f q : Nat) (M : am_D), mGrF a b t lim f q M 0 17 = M 0 17
  | 0, _, _ => rfl
  | f + 1, q, M => by
    unfold mGrF
    by_cases h : vR M < lim
    · rw [if_pos h]
      by_cases h2 : mFT M (nI q) a b (-1)
      · rw [if_pos h2, b17_grF f (q + 1)]
        try dsimp only
        rw [b17_sit, b17_beg]
      · rw [if_neg h2, b17_grF f (q + 1)]
    · rw [if_neg h]
theorem b17_group {M : am_D} {a b t n : Int32} : (mGroup M a b t n).2 0 17 = M 0 17 := by
  unfold mGroup
  by_cases h : n < 2 ∨ 12 < n ∨ mWrong (mT M) a b t n
  · rw [if_pos h]
    exact b17_T
  · rw [if_neg h]
    unfold mGroupOk
    by_cases h2 : mGrW (mT M) a.toNatClampNeg b.toNatClampNeg t n.toNatClampNeg < 0
    · rw [if_pos h2]
      exact b17_T
    · rw [if_neg h2]
      try dsimp only
      rw [b17_grF _ _ _, b17_T]
theorem b17_bcF {r b : Nat} {t : Int32} : ∀ (f a : Nat) (M : am_D), mBcF r b t f a M 0 17 = M 0 17
  | 0, _, _ => rfl
  | f + 1, a, M => by
    unfold mBcF
    by_cases h : b ≤ a
    · rw [if_pos h]
    · rw [if_neg h, b17_bcF f]
      exact mFill_ne (by omega)
theorem b17_bkCh {M : am_D} {a b t : Int32} : (mBkCh M a b t).2 0 17 = M 0 17 := by
  unfold mBkCh
  by_cases h : mWrong (mT M) a b t 1
  · rw [if_pos h]
    exact b17_T
  · rw [if_neg h]
    by_cases h2 : mFew (mT M) a.toNatClampNeg b.toNatClampNeg t < 0
    · rw [if_pos h2]
      exact b17_T
    · rw [if_neg h2]
      try dsimp only
      rw [b17_bcF _ _ _, b17_beg, b17_T]
theorem b17_wb {M : am_D} {r q : Nat} : mWb M r q 0 17 = M 0 17 := by
  unfold mWb
  try dsimp only
  rw [b17_sit, am_up_at (by omega)]
theorem b17_wiF {r : Nat} {m was : Int32} : ∀ (f q : Nat) (M : am_D), (mWiF r m was f q M).2 0 17 = M 0 17
  | 0, _, _ => rfl
  | f + 1, q, M => by
    unfold mWiF
    by_cases h : mWc M r m q
    · rw [if_pos h]
      by_cases h2 : (mSweep (mWb M r q) (M 9 r) (nI r)).2 = true
      · rw [if_pos h2]
        try dsimp only
        rw [mSweep_at (by omega) (by omega) (by omega), b17_wb]
      · rw [if_neg h2, b17_wiF f]
        try dsimp only
        rw [b17_sit, am_up_at (by omega), mSweep_at (by omega) (by omega) (by omega), b17_wb]
    · rw [if_neg h, b17_wiF f]
theorem b17_wish {M : am_D} {r m : Int32} : (mWish M r m).2 0 17 = M 0 17 := by
  unfold mWish
  by_cases h : ¬ mLiv (mT M) r ∨ ¬ mT M 6 r.toNatClampNeg = 1 ∨ m < 0 ∨ 255 < m
  · rw [if_pos h]
    exact b17_T
  · rw [if_neg h]
    unfold mWishOk
    by_cases h2 : am_fst (mWs (mT M) r.toNatClampNeg m) (vF (mT M) (vC (mT M))) 0 < 0
    · rw [if_pos h2, b17_wiF]
      exact b17_T
    · rw [if_neg h2]
      try dsimp only
      rw [am_up_at (by omega), b17_sit, b17_T]
theorem b17_print {M : am_D} {r : Int32} : (mPrint M r).2 0 17 = M 0 17 := by
  unfold mPrint
  by_cases h : ¬ mLiv (mT M) r ∨ M 6 r.toNatClampNeg = 3 ∨ ¬ M 11 r.toNatClampNeg = 0
  · rw [if_pos h]
    exact b17_T
  · rw [if_neg h]
    try dsimp only
    rw [am_up_at (by omega), am_up_at (by omega), b17_T]
theorem b17_cancel {M : am_D} {r : Int32} : (mCancel M r).2 0 17 = M 0 17 := by
  unfold mCancel
  by_cases h : mLiv (mT M) r
  · rw [if_pos h]
    try dsimp only
    rw [mStd_ne (by omega), am_up_at (by omega), b17_T]
  · rw [if_neg h]
    exact b17_T
theorem b17_short {M : am_D} {r a b : Int32} : (mShort M r a b).2 0 17 = M 0 17 := by
  unfold mShort
  by_cases h : ¬ mLiv (mT M) r ∨ M 6 r.toNatClampNeg = 3 ∨ b ≤ a ∨ a < M 7 r.toNatClampNeg ∨ M 8 r.toNatClampNeg < b
  · rw [if_pos h]
    exact b17_T
  · rw [if_neg h]
    try dsimp only
    rw [mPut_ne (by omega), am_up_at (by omega), am_up_at (by omega), b17_T]
theorem zvB' {M M' : am_D} {c : Nat} (h : M' 0 17 = M 0 17) (hc : vB M ≤ c) : vB M' ≤ c + 1 := by
  rw [zvB h]
  omega
theorem bv_block {M : am_D} {c s a b : Int32} (hG : mG M) (hR : mGR M) (hB : vB M ≤ 598) : vB (mBlock M c s a b).2 ≤ vB M + 1 := by
  have hT : vB (mT M) = vB M := zvB b17_T
  unfold mBlock
  by_cases h : mSeatIn (mT M) c s < 0 ∨ ¬ mWay (mT M) a b
  · rw [if_pos h]
    show vB (mT M) ≤ _
    omega
  · rw [if_neg h]
    have hadd : ∀ p x y, vB (mAddB (mT M) p x y) = vB M + 1 := fun p x y => by
      rw [(mAddB.all (mT.all hG).1 (mT.GR hG hR) (by omega)).2.2.1, hT]
    unfold mBlockOk
    by_cases h1 : ∃ u, a.toNatClampNeg ≤ u ∧ u < b.toNatClampNeg ∧ ¬ mWho (mT M) (mSeatIn (mT M) c s) u < 0 ∧ mT M 6 (mWho (mT M) (mSeatIn (mT M) c s) u).toNatClampNeg = 2
    · rw [if_pos h1]
      show vB (mT M) ≤ _
      omega
    · rw [if_neg h1]
      by_cases h2 : ∃ u, a.toNatClampNeg ≤ u ∧ u < b.toNatClampNeg ∧ ¬ mWho (mT M) (mSeatIn (mT M) c s) u < 0
      · rw [if_pos h2]
        by_cases h3 : (mSweep (mAddB (mT M) (mSeatIn (mT M) c s) (nI a.toNatClampNeg) (nI b.toNatClampNeg)) (M 2 c.toNatClampNeg) (-1)).2 = true
        · rw [if_pos h3]
          show vB (mSweep _ _ _).1 ≤ _
          rw [zvB (mSweep_at (by omega) (by omega) (by omega)), hadd]
          exact Nat.le_refl _
        · rw [if_neg h3]
          show vB (am_up _ 0 17 (nI (vB (mT M)))) ≤ _
          unfold vB at *
          rw [am_up_same, nI_clamp (by omega)]
          omega
      · rw [if_neg h2]
        exact Nat.le_of_eq (hadd _ _ _)
theorem bv_un {M : am_D} {c s a b : Int32} (hG : mG M) (hR : mGR M) : vB (mUn M c s a b).2 ≤ vB M := by
  have hT : vB (mT M) = vB M := zvB b17_T
  unfold mUn
  by_cases h : mUnF M c s a b < 0
  · rw [if_pos h]
    exact Nat.le_of_eq hT
  · rw [if_neg h]
    show vB (mDrop _ _) ≤ _
    rw [(mDrop.all (mT.all hG).1 (mT.GR hG hR)).2.2.2.2.1]
    omega
theorem bv_rcP : ∀ (f r c : Nat) (M : am_D), (mRcP f r c M).2 0 17 = M 0 17
  | 0, _, _, _ => rfl
  | f + 1, r, c, M => by
    unfold mRcP
    by_cases h : M 17 r = 0
    · rw [if_pos h, bv_rcP f]
    · rw [if_neg h]
      by_cases h2 : (mPlace (am_up M 6 r 1) r).2 = true
      · rw [if_pos h2, bv_rcP f]
        try dsimp only
        rw [mPlace_at (by omega) (by omega) (by omega), am_up_at (by omega)]
      · rw [if_neg h2, bv_rcP f]
        try dsimp only
        rw [mStd_ne (by omega), am_up_at (by omega), mPlace_at (by omega) (by omega) (by omega), am_up_at (by omega)]
theorem bv_rcB {n : Nat} : ∀ (b : Nat) (M : am_D), mG M → mGR M → vB (mRcB n b M) ≤ vB M
  | 0, M, _, _ => Nat.le_refl _
  | b + 1, M, hG, hR => by
    unfold mRcB
    by_cases h : M 1 n ≤ M 14 b ∧ M 14 b < M 1 (n + 1)
    · rw [if_pos h]
      obtain ⟨g1, g2, g3, g4, g5, g6⟩ := mDrop.all (b := b) hG hR
      have := bv_rcB (n := n) b (mDrop M b) g1 g2
      omega
    · rw [if_neg h]
      exact bv_rcB b M hG hR
theorem bv_remove {M : am_D} {n : Int32} (hG : mG M) (hR : mGR M) : vB (mRemove M n).2 ≤ vB M := by
  have hT : vB (mT M) = vB M := zvB b17_T
  unfold mRemove
  by_cases h : n < 0 ∨ M 0 2 ≤ n ∨ ¬ M 3 n.toNatClampNeg = 0
  · rw [if_pos h]
    exact Nat.le_of_eq hT
  · rw [if_neg h]
    show vB (mRcP _ _ _ _).2 ≤ _
    rw [zvB (bv_rcP _ _ _ _), zvB (mRcL_ne (by omega) (by omega) (by omega) (by omega) _ _ _)]
    have hG1 := (mT.all hG).1
    have hR1 := mT.GR hG hR
    have e3 : ∀ k j, k ≠ 3 → am_up (mT M) 3 n.toNatClampNeg 1 k j = mT M k j := fun k j z => am_up_at (fun y => z y.1)
    refine Nat.le_trans (bv_rcB _ _ (hG1.c (e3 0 1 (by omega)) (e3 0 2 (by omega)) (e3 0 8 (by omega)) (e3 0 17 (by omega)) (fun j => e3 1 j (by omega))) (mGR_of hR1 (zvR (e3 0 8 (by omega))) (zvL (e3 0 1 (by omega))) (fun j => e3 7 j (by omega)) (fun j => e3 8 j (by omega)))) ?_
    rw [zvB (e3 0 17 (by omega))]
    exact Nat.le_of_eq hT
/-! ===== the law: ride ===== -/
noncomputable def dRideV (D : am_D) (i : Nat) (w : Nat) : Int32 := match w with
  | 0 => D (sd_rn i) 6
  | 1 => D (sd_rn i) 2
  | 2 => D (sd_rn i) 3
  | 3 => D (sd_rn i) 4
  | 4 => D (sd_rn i) 5
  | _ => nI (dChg D i (da D i) (db D i))
theorem rideV_eq {L A i w : Nat} {D M : am_D} (h : Rel L A D M none) (hi : i < vR M) : dRideV D i w = mRideV M i w := by
  obtain ⟨f2, f3, f4, f5, f6, f7⟩ := h.R.2 i hi
  obtain ⟨w1, w2, w3, w4, w5, w6, w7⟩ := h.V.w hi
  match w with
  | 0 => exact f6
  | 1 => exact f2
  | 2 => exact f3
  | 3 => exact f4
  | 4 => exact f5
  | w + 5 =>
    show nI (dChg D i (da D i) (db D i)) = mChg M i
    rw [w4, w5]
    exact chg_eq h.P hi (by rw [← h.n.1]; exact w7)
