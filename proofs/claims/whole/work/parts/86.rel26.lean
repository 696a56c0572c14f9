/-! ===== desk and reference: blocks of a coach fall, the coach is gone ===== -/
theorem cnt_true {p : Nat → Prop} (hp : ∀ j, p j) : ∀ f i acc, am_cnt p f i acc = acc + f
  | 0, _, _ => rfl
  | f + 1, i, acc => by
    rw [am_cnt_t (hp i), cnt_true hp f (i + 1) (acc + 1)]
    omega
theorem bAll_eq {f e : Int32} : ∀ (i : Nat) (D : am_D), bG D → i ≤ bB D → (∀ j, i ≤ j → j < bB D → ¬ (f ≤ D 10 j ∧ D 10 j < e)) → bG (bAll f e i D) ∧ (∀ P : Int32 → Int32 → Prop, am_cnt (fun j => P (bAll f e i D 10 j) (bAll f e i D 11 j)) (bB (bAll f e i D)) 0 0 = am_cnt (fun j => P (D 10 j) (D 11 j) ∧ ¬ (f ≤ D 10 j ∧ D 10 j < e)) (bB D) 0 0)
  | 0, D, hG, _, h => ⟨hG, fun P => by
    show am_cnt (fun j => P (D 10 j) (D 11 j)) (bB D) 0 0 = _
    exact am_cnt_c _ _ _ (fun j _ hj => ⟨fun z => ⟨z, h j (by omega) (by omega)⟩, fun z => z.1⟩)⟩
  | i + 1, D, hG, hi, h => by
    unfold bAll
    by_cases hz : f ≤ D 10 i ∧ D 10 i < e
    · rw [if_pos hz]
      obtain ⟨g1, g2⟩ := bRem.all hG (show i < bB D by omega)
      obtain ⟨a1, a2⟩ := bAll_eq (f := f) (e := e) i (bRem D i) g1 (by omega) (fun j j1 j2 => by
        rw [bRem_at (by omega)]
        by_cases ej : j = i
        · rw [if_pos ej]
          exact h (bB D - 1) (by omega) (by omega)
        · rw [if_neg ej]
          exact h j (by omega) (by omega))
      refine ⟨a1, fun P => ?_⟩
      rw [a2 P, g2]
      have := bRem_cnt (P := fun p w => P p w ∧ ¬ (f ≤ p ∧ p < e)) (show i < bB D by omega)
      rw [z_i_f (fun z => z.2 hz), Nat.add_zero] at this
      exact this
    · rw [if_neg hz]
      exact bAll_eq i D hG (by omega) (fun j j1 j2 => by
        by_cases ej : j = i
        · rw [ej]
          exact hz
        · exact h j (by omega) j2)
theorem mRcB_eq {c : Nat} : ∀ (i : Nat) (M : am_D), mG M → mGR M → i ≤ vB M → (∀ j, i ≤ j → j < vB M → ¬ (M 1 c ≤ M 14 j ∧ M 14 j < M 1 (c + 1))) → mG (mRcB c i M) ∧ (∀ P : Int32 → Int32 → Prop, am_cnt (fun j => P (mRcB c i M 14 j) (wayI (mRcB c i M 15 j) (mRcB c i M 16 j))) (vB (mRcB c i M)) 0 0 = am_cnt (fun j => P (M 14 j) (wayI (M 15 j) (M 16 j)) ∧ ¬ (M 1 c ≤ M 14 j ∧ M 14 j < M 1 (c + 1))) (vB M) 0 0) ∧ (∀ n j, ¬ (n = 0 ∧ j = 17) → n ≠ 14 → n ≠ 15 → n ≠ 16 → mRcB c i M n j = M n j) ∧ ∀ b, b < vB (mRcB c i M) → ∃ b0, b0 < vB M ∧ ∀ n, n = 14 ∨ n = 15 ∨ n = 16 → mRcB c i M n b = M n b0
  | 0, M, hG, _, _, h => ⟨hG, fun P => by
    show am_cnt (fun j => P (M 14 j) (wayI (M 15 j) (M 16 j))) (vB M) 0 0 = _
    exact am_cnt_c _ _ _ (fun j _ hj => ⟨fun z => ⟨z, h j (by omega) (by omega)⟩, fun z => z.1⟩), fun _ _ _ _ _ _ => rfl, fun b hb => ⟨b, hb, fun _ _ => rfl⟩⟩
  | i + 1, M, hG, hR, hi, h => by
    unfold mRcB
    by_cases hz : M 1 c ≤ M 14 i ∧ M 14 i < M 1 (c + 1)
    · rw [if_pos hz]
      obtain ⟨g1, g2, g3, g4, g5, g6⟩ := mDrop.all (b := i) hG hR
      have e1 : ∀ j, mDrop M i 1 j = M 1 j := fun j => mDrop_at (by omega) (by omega) (by omega) (by omega)
      have ent : ∀ j, j < vB M - 1 → ∃ j', j' < vB M ∧ (j < i ∧ j' = j ∨ i ≤ j ∧ j' = j + 1) ∧ ∀ n, n = 14 ∨ n = 15 ∨ n = 16 → mDrop M i n j = M n j' := fun j hj => by
        rcases mDrop_b (b := i) hj with ⟨z1, z2⟩ | ⟨z1, z2⟩
        · exact ⟨j, by omega, by omega, z2⟩
        · exact ⟨j + 1, by omega, by omega, z2⟩
      obtain ⟨a1, a2, a3, a4⟩ := mRcB_eq (c := c) i (mDrop M i) g1 g2 (by omega) (fun j j1 j2 => by
        obtain ⟨j', y1, y2, y3⟩ := ent j (by omega)
        rw [e1, e1, y3 14 (by omega)]
        exact h j' (by omega) (by omega))
      refine ⟨a1, fun P => ?_, fun n j z1 z2 z3 z4 => (a3 n j z1 z2 z3 z4).trans (mDrop_at z1 z2 z3 z4), fun b hb => ?_⟩
      · rw [a2 P, g5, e1, e1]
        have := mDrop_cnt (P := fun p w => P p w ∧ ¬ (M 1 c ≤ p ∧ p < M 1 (c + 1))) (show i < vB M by omega)
        rw [z_i_f (fun z => z.2 hz), Nat.add_zero] at this
        exact this
      · obtain ⟨b0, b1, b2⟩ := a4 b hb
        obtain ⟨j', y1, y2, y3⟩ := ent b0 (by omega)
        exact ⟨j', y1, fun n hn => (b2 n hn).trans (y3 n hn)⟩
    · rw [if_neg hz]
      exact mRcB_eq i M hG hR (by omega) (fun j j1 j2 => by
        by_cases ej : j = i
        · rw [ej]
          exact hz
        · exact h j (by omega) j2)
theorem bk_i {L q s b : Nat} {D M : am_D} (h : rB L D M) (hL : L ≤ 29) (hs : s < 29) (hb : b < vB M) : mBk M (nI q) (nI s) b ↔ (M 14 b = nI q ∧ bt (wayI (M 15 b) (M 16 b)) s) := by
  obtain ⟨q', a, e, y1, y2, y3, y4, y5, y6⟩ := h.2.2 b hb
  unfold mBk
  rw [y3, y4, bt_way (by omega) (by omega), nI_lei (by omega) (by omega), nI_lti (by omega) (by omega)]
theorem kx_i {L q s : Nat} {D M : am_D} (h : rB L D M) (hL : L ≤ 29) (hs : s < 29) : (∃ b, b < vB M ∧ mBk M (nI q) (nI s) b) ↔ 0 < am_cnt (fun b => M 14 b = nI q ∧ bt (wayI (M 15 b) (M 16 b)) s) (vB M) 0 0 := by
  constructor
  · rintro ⟨b, b1, b2⟩
    exact am_cnt_ex _ _ _ b (by omega) (by omega) ((bk_i h hL hs b1).mp b2)
  · intro z
    obtain ⟨b, b1, b2, b3⟩ := am_cnt_pos _ _ _ z
    exact ⟨b, by omega, (bk_i h hL hs (by omega)).mpr b3⟩
theorem mRcL_ne {c n j : Nat} (h6 : n ≠ 6) (h11 : n ≠ 11) (h12 : n ≠ 12) (h17 : n ≠ 17) : ∀ (f r : Nat) (M : am_D), mRcL c f r M n j = M n j
  | 0, _, _ => rfl
  | f + 1, r, M => by
    unfold mRcL
    by_cases hz : 0 < M 6 r ∧ mIn M r c
    · rw [if_pos hz, mRcL_ne h6 h11 h12 h17 f (r + 1), mLose_at, if_neg (fun y => h12 y.1), if_neg (fun y => h11 y.1), if_neg (fun y => h6 y.1), if_neg (fun y => h17 y.1)]
    · rw [if_neg hz, mRcL_ne h6 h11 h12 h17 f (r + 1), am_up_at (fun y => h17 y.1)]
theorem dLoF_ne {c n j : Nat} (hn : n ≤ 20) (h5 : n ≠ 5) : ∀ (f i : Nat) (D : am_D), dLoF c f i D n j = D n j
  | 0, _, _ => rfl
  | f + 1, i, D => by
    unfold dLoF
    by_cases hz : dIn D i c
    · rw [if_pos hz, dLoF_ne hn h5 f (i + 1), up_s hn, up_s hn, dLv_s hn h5]
    · rw [if_neg hz, dLoF_ne hn h5 f (i + 1)]
theorem remOk_eq {L A c : Nat} {D M : am_D} (h : Rel L A D M none) (hc : c < vC M) (h3 : M 3 c = 0) : nI (dSaF L (dR D) 0 0 (dRem2 D c)).1 = (mRemOk M c).1 ∧ Rel L A (dSaF L (dR D) 0 0 (dRem2 D c)).2 (mRemOk M c).2 none := by
  obtain ⟨n1, n2, n3, n4, n5, n6, n7, n8, n9⟩ := h.n
  obtain ⟨l1, l2, l3⟩ := lo_eq (c := c) (vR M) 0 D M h.Rc (by omega) hc (fun k hk _ => (h.R.2 k hk).2.2.2.2.1) (fun k hk => absurd hk (by omega))
  -- the reference's blocks
  have e3 : ∀ n j, ¬ (n = 3 ∧ j = c) → am_up M 3 c 1 n j = M n j := fun n j z => am_up_at z
  have hG3 : mG (am_up M 3 c 1) := h.G.c (e3 0 1 (by omega)) (e3 0 2 (by omega)) (e3 0 8 (by omega)) (e3 0 17 (by omega)) (fun j => e3 1 j (by omega))
  have hGR3 : mGR (am_up M 3 c 1) := mGR_of h.GR (zvR (e3 0 8 (by omega))) (zvL (e3 0 1 (by omega))) (fun j => e3 7 j (by omega)) (fun j => e3 8 j (by omega))
  have vB3 : vB (am_up M 3 c 1) = vB M := zvB (e3 0 17 (by omega))
  obtain ⟨w1, w2, w3, w4⟩ := mRcB_eq (c := c) (vB M) (am_up M 3 c 1) hG3 hGR3 (by omega) (fun j j1 j2 => absurd j1 (by omega))
  have m33 : am_up M 3 c 1 3 c = 1 := am_up_same
  rw [vB3] at w2 w4
  have hrem : mRemOk M c = (nI (mRcP (vR M) 0 0 (mRcL c (vR M) 0 (mRcB c (vB M) (am_up M 3 c 1)))).1, (mRcP (vR M) 0 0 (mRcL c (vR M) 0 (mRcB c (vB M) (am_up M 3 c 1)))).2) := rfl
  rw [hrem]
  generalize am_up M 3 c 1 = M3 at *
  generalize mRcB c (vB M) M3 = W at *
  obtain ⟨f1, f2⟩ := mRcL_fr (c := c) (vR M) 0 M W (fun n j z => (w3 n j (by omega) (by omega) (by omega) (by omega)).trans (e3 n j (by omega)))
  have gW : ∀ n j, n ≠ 6 → n ≠ 11 → n ≠ 12 → n ≠ 17 → mRcL c (vR M) 0 W n j = W n j := fun n j z1 z2 z3 z4 => mRcL_ne z1 z2 z3 z4 _ _ _
  have gY : ∀ n j, n ≠ 6 → n ≠ 11 → n ≠ 12 → n ≠ 17 → mRcL c (vR M) 0 M n j = M n j := fun n j z1 z2 z3 z4 => mRcL_ne z1 z2 z3 z4 _ _ _
  generalize mRcL c (vR M) 0 W = M2 at *
  generalize mRcL c (vR M) 0 M = Y at *
  -- the desk's blocks
  have hX : ∀ n j, n ≤ 20 → n ≠ 5 → dLoF c (vR M) 0 D n j = D n j := fun n j z1 z2 => dLoF_ne z1 z2 _ _ _
  have hd2 : dRem2 D c = dDrop (bAll (D 8 c) (D 8 (c + 1)) (bB (dLoF c (vR M) 0 D)) (dLoF c (vR M) 0 D)) c := by
    unfold dRem2 dRem1
    rw [n7]
  rw [hd2, n7]
  obtain ⟨b1, b2⟩ := bAll_eq (f := D 8 c) (e := D 8 (c + 1)) (bB (dLoF c (vR M) 0 D)) (dLoF c (vR M) 0 D) l1.bg (Nat.le_refl _) (fun j j1 j2 => absurd j1 (by omega))
  have b3 : ∀ n j, n ≠ 9 → n ≠ 10 → n ≠ 11 → bAll (D 8 c) (D 8 (c + 1)) (bB (dLoF c (vR M) 0 D)) (dLoF c (vR M) 0 D) n j = dLoF c (vR M) 0 D n j := fun n j z1 z2 z3 => bAll_ne _ _ _ _ z1 z2 z3
  generalize dLoF c (vR M) 0 D = X at *
  generalize bAll (D 8 c) (D 8 (c + 1)) (bB X) X = B at *
  have F : ∀ k, k ≤ vC M → D 8 k = M 1 k ∧ M 1 k = nI (vF M k) ∧ vF M k ≤ 80 := fun k hk => ⟨h.S.2.2.1 k hk, h.G.2.2.2.2.2.2.2.2.2.1 k hk, h.G.F80 hk⟩
  have dFB : ∀ k, k ≤ vC M → dF B k = vF M k := fun k hk => by
    unfold dF vF
    rw [b3 8 k (by omega) (by omega) (by omega), hX 8 k (by omega) (by omega), (F k hk).1]
  have dd : ∀ n j, n ≠ 7 → n ≠ 2 → dDrop B c n j = B n j := fun n j z1 z2 => dDrop_ne z1 z2
  have dd7 : ∀ j, dDrop B c 7 j = if j = c then 0 else B 7 j := fun j => by
    unfold dDrop dDropI
    by_cases e : j = c
    · rw [if_pos ⟨rfl, e⟩, if_pos e]
    · rw [if_neg (fun z => e z.2), if_neg e, if_neg (fun z => absurd z.1 (by decide))]
  have dd2 : ∀ j, dDrop B c 2 j = if vF M c ≤ j ∧ j < vF M (c + 1) then -1 else B 2 j := fun j => by
    unfold dDrop dDropI
    rw [if_neg (fun z => absurd z.1 (by decide)), dFB c (by omega), dFB (c + 1) (by omega)]
    by_cases e : vF M c ≤ j ∧ j < vF M (c + 1)
    · rw [if_pos ⟨rfl, e⟩, if_pos e]
    · rw [if_neg (fun z => e z.2), if_neg e]
  generalize dDrop B c = D2 at *
  have x2 : ∀ n j, n ≠ 7 → n ≠ 2 → n ≠ 9 → n ≠ 10 → n ≠ 11 → D2 n j = X n j := fun n j z1 z2 z3 z4 z5 => (dd n j z1 z2).trans (b3 n j z3 z4 z5)
  have xs : ∀ n j, n ≤ 20 → n ≠ 5 → n ≠ 7 → n ≠ 2 → n ≠ 9 → n ≠ 10 → n ≠ 11 → D2 n j = D n j := fun n j z z0 z1 z2 z3 z4 z5 => (x2 n j z1 z2 z3 z4 z5).trans (hX n j z z0)
  have xr : ∀ k j, D2 (sd_rn k) j = X (sd_rn k) j := fun k j => x2 _ j (by unfold sd_rn; omega) (by unfold sd_rn; omega) (by unfold sd_rn; omega) (by unfold sd_rn; omega) (by unfold sd_rn; omega)
  have xp : ∀ k j, D2 (sd_pn k) j = X (sd_pn k) j := fun k j => x2 _ j (by unfold sd_pn; omega) (by unfold sd_pn; omega) (by unfold sd_pn; omega) (by unfold sd_pn; omega) (by unfold sd_pn; omega)
  have y2 : ∀ n j, ¬ (n = 3 ∨ n = 14 ∨ n = 15 ∨ n = 16 ∨ n = 0 ∧ j = 17) → M2 n j = Y n j := f1
  have yM : ∀ n j, ¬ (n = 3 ∨ n = 14 ∨ n = 15 ∨ n = 16 ∨ n = 0 ∧ j = 17) → n ≠ 6 → n ≠ 11 → n ≠ 12 → n ≠ 17 → M2 n j = M n j := fun n j z z1 z2 z3 z4 => (y2 n j z).trans (gY n j z1 z2 z3 z4)
  have y3 : ∀ j, M2 3 j = if j = c then 1 else M 3 j := fun j => by
    rw [gW 3 j (by omega) (by omega) (by omega) (by omega), w3 3 j (by omega) (by omega) (by omega) (by omega)]
    by_cases e : j = c
    · rw [if_pos e, e, m33]
    · rw [if_neg e, e3 3 j (by omega)]
  have vR2 : vR M2 = vR M := zvR (yM 0 8 (by omega) (by omega) (by omega) (by omega) (by omega))
  have vC2 : vC M2 = vC M := zvC (yM 0 2 (by omega) (by omega) (by omega) (by omega) (by omega))
  have m1 : ∀ j, M2 1 j = M 1 j := fun j => yM 1 j (by omega) (by omega) (by omega) (by omega) (by omega)
  have vBY : vB Y = vB M := zvB (gY 0 17 (by omega) (by omega) (by omega) (by omega))
  have vBW : vB M2 = vB W := zvB (gW 0 17 (by omega) (by omega) (by omega) (by omega))
  have eF : vF M2 (vC M2) = vF M (vC M) := by rw [vC2, zvF m1]
  have eFY : vF Y (vC Y) = vF M (vC M) := by rw [zvF (fun j => gY 1 j (by omega) (by omega) (by omega) (by omega)), zvC (gY 0 2 (by omega) (by omega) (by omega) (by omega))]
  have edC : dC D2 = dC D := zdC (xs 1 1 (by omega) (by omega) (by omega) (by omega) (by omega) (by omega) (by omega))
  -- counting blocks
  have hcnt : ∀ P : Int32 → Int32 → Prop, am_cnt (fun j => P (D2 10 j) (D2 11 j)) (bB D2) 0 0 = am_cnt (fun j => P (M2 14 j) (wayI (M2 15 j) (M2 16 j))) (vB M2) 0 0 ∧ am_cnt (fun j => P (M2 14 j) (wayI (M2 15 j) (M2 16 j))) (vB M2) 0 0 = am_cnt (fun j => P (Y 14 j) (wayI (Y 15 j) (Y 16 j)) ∧ ¬ (M 1 c ≤ Y 14 j ∧ Y 14 j < M 1 (c + 1))) (vB Y) 0 0 := fun P => by
    have k1 : am_cnt (fun j => P (M2 14 j) (wayI (M2 15 j) (M2 16 j))) (vB M2) 0 0 = am_cnt (fun j => P (Y 14 j) (wayI (Y 15 j) (Y 16 j)) ∧ ¬ (M 1 c ≤ Y 14 j ∧ Y 14 j < M 1 (c + 1))) (vB Y) 0 0 := by
      rw [vBW, vBY, am_cnt_c (q := fun j => P (W 14 j) (wayI (W 15 j) (W 16 j))) _ _ _ (fun j _ _ => by rw [gW 14 j (by omega) (by omega) (by omega) (by omega), gW 15 j (by omega) (by omega) (by omega) (by omega), gW 16 j (by omega) (by omega) (by omega) (by omega)]), w2 P]
      exact am_cnt_c _ _ _ (fun j _ _ => by rw [e3 14 j (by omega), e3 15 j (by omega), e3 16 j (by omega), e3 1 c (by omega), e3 1 (c + 1) (by omega), gY 14 j (by omega) (by omega) (by omega) (by omega), gY 15 j (by omega) (by omega) (by omega) (by omega), gY 16 j (by omega) (by omega) (by omega) (by omega)])
    refine ⟨?_, k1⟩
    rw [k1, zbB (dd 9 2 (by omega) (by omega)), am_cnt_c (q := fun j => P (B 10 j) (B 11 j)) _ _ _ (fun j _ _ => by rw [dd 10 j (by omega) (by omega), dd 11 j (by omega) (by omega)]), b2 P, l1.B.2.1 (fun p w => P p w ∧ ¬ (D 8 c ≤ p ∧ p < D 8 (c + 1)))]
    rw [(F c (by omega)).1, (F (c + 1) (by omega)).1]
  have hB2 : rB L D2 M2 := by
    refine ⟨?_, fun P => (hcnt P).1, fun b hb => ?_⟩
    · have := (hcnt (fun _ _ => True)).1
      rw [cnt_true (fun _ => trivial), cnt_true (fun _ => trivial)] at this
      omega
    · obtain ⟨b0, z1, z2⟩ := w4 b (by omega)
      rw [gW 14 b (by omega) (by omega) (by omega) (by omega), gW 15 b (by omega) (by omega) (by omega) (by omega), gW 16 b (by omega) (by omega) (by omega) (by omega), z2 14 (by omega), z2 15 (by omega), z2 16 (by omega), e3 14 b0 (by omega), e3 15 b0 (by omega), e3 16 b0 (by omega), eF]
      exact h.B.2.2 b0 (by omega)
  have hS2 : rS L D2 M2 := by
    obtain ⟨s1, s2, s3, s4, s5, s6, s7, s8, s9, s10⟩ := h.S
    have hco : ∀ q, q < dC D → (vF M c ≤ q ∧ q < vF M (c + 1) ↔ mCo M q = c) := fun q hq => by
      constructor
      · exact fun z => mCo_u h.G hc z.1 z.2
      · intro z
        obtain ⟨y1, y2, -⟩ := h.G.co (q := q) (by omega)
        rw [z] at y1 y2
        exact ⟨y1, y2⟩
    refine ⟨?_, ?_, fun k hk => ?_, fun k hk => ?_, fun k hk => ?_, by omega, fun q hq => ?_, fun q hq => ?_, fun q => ?_, fun k hk => ?_⟩
    · rw [zvL (yM 0 1 (by omega) (by omega) (by omega) (by omega) (by omega))]
      exact s1
    · rw [vC2, ← s2]
      unfold dK
      rw [xs 1 7 (by omega) (by omega) (by omega) (by omega) (by omega) (by omega) (by omega)]
    · rw [xs 8 k (by omega) (by omega) (by omega) (by omega) (by omega) (by omega) (by omega), m1]
      exact s3 k (by omega)
    · rw [dd7, y3, b3 7 k (by omega) (by omega) (by omega), hX 7 k (by omega) (by omega)]
      by_cases e : k = c
      · rw [if_pos e, if_pos e]
        exact ⟨fun _ => by decide, fun _ => rfl⟩
      · rw [if_neg e, if_neg e]
        exact s4 k (by omega)
    · rw [y3, if_neg (by omega)]
      exact s5 k (by omega)
    · rw [edC] at hq
      rw [dd2, b3 2 q (by omega) (by omega) (by omega), hX 2 q (by omega) (by omega), mCo_c m1, y3, yM 2 _ (by omega) (by omega) (by omega) (by omega) (by omega)]
      by_cases e : vF M c ≤ q ∧ q < vF M (c + 1)
      · rw [if_pos e, if_pos ((hco q hq).mp e), if_neg (by decide)]
      · rw [if_neg e, if_neg (fun z => e ((hco q hq).mpr z))]
        exact s7 q hq
    · rw [edC] at hq
      rw [xs 3 q (by omega) (by omega) (by omega) (by omega) (by omega) (by omega) (by omega), mTold_c m1]
      exact s8 q hq
    · rw [xs 4 q (by omega) (by omega) (by omega) (by omega) (by omega) (by omega) (by omega), yM 4 q (by omega) (by omega) (by omega) (by omega) (by omega)]
      exact s9 q
    · rw [yM 2 k (by omega) (by omega) (by omega) (by omega) (by omega)]
      exact s10 k (by omega)
  have hK2 : rK L D2 M2 := fun q hq ht s hs => by
    have hnr : ¬ (vF M c ≤ q ∧ q < vF M (c + 1)) := fun z => by
      have := h.G.mono (show c + 1 ≤ vC M by omega) (Nat.le_refl _)
      rcases ht with w | w
      · omega
      · rw [dd2, if_pos z] at w
        exact w rfl
    have ht' : dC X ≤ q ∨ ¬ X 2 q = -1 := by
      rcases ht with w | w
      · left
        rw [zdC (hX 1 1 (by omega) (by omega))]
        omega
      · right
        rw [dd2, if_neg hnr, b3 2 q (by omega) (by omega) (by omega)] at w
        exact w
    rw [x2 6 q (by omega) (by omega) (by omega) (by omega) (by omega), l1.K q hq ht' s hs, kx_i l1.B n3 (by omega), kx_i hB2 n3 (by omega), (hcnt (fun p w => p = nI q ∧ bt w s)).2]
    rw [am_cnt_c (q := fun b => (Y 14 b = nI q ∧ bt (wayI (Y 15 b) (Y 16 b)) s) ∧ ¬ (M 1 c ≤ Y 14 b ∧ Y 14 b < M 1 (c + 1))) _ _ _ (fun b _ _ => ⟨fun z => ⟨z, fun w => hnr ?_⟩, fun z => z.1⟩)]
    rw [z.1, (F c (by omega)).2.1, (F (c + 1) (by omega)).2.1] at w
    have f80 := (F c (by omega)).2.2
    have f81 := (F (c + 1) (by omega)).2.2
    exact ⟨(nI_lei (by omega) (by omega)).mp w.1, (nI_lti (by omega) (by omega)).mp w.2⟩
  have hRc : Rc L A D2 M2 none := ⟨w1.c (gW 0 1 (by omega) (by omega) (by omega) (by omega)) (gW 0 2 (by omega) (by omega) (by omega) (by omega)) (gW 0 8 (by omega) (by omega) (by omega) (by omega)) (gW 0 17 (by omega) (by omega) (by omega) (by omega)) (fun j => gW 1 j (by omega) (by omega) (by omega) (by omega)), mGR_of l1.GR (zvR (y2 0 8 (by omega))) (zvL (y2 0 1 (by omega))) (fun j => y2 7 j (by omega)) (fun j => y2 8 j (by omega)), l1.O.eq (x2 0 0 (by omega) (by omega) (by omega) (by omega) (by omega)) (x2 0 4 (by omega) (by omega) (by omega) (by omega) (by omega)) (fun j => x2 12 j (by omega) (by omega) (by omega) (by omega) (by omega)) (fun j => x2 13 j (by omega) (by omega) (by omega) (by omega) (by omega)) (fun k => ⟨xr k 0, xr k 1⟩), l1.sg.eq (fun j => x2 1 j (by omega) (by omega) (by omega) (by omega) (by omega)), b1.eq (dd 9 2 (by omega) (by omega)), hS2, l1.T.eq (fun q _ => x2 5 q (by omega) (by omega) (by omega) (by omega) (by omega)) (zvR (y2 0 8 (by omega))) (fun k _ s _ => y2 12 _ (by omega)) n3, hK2, l1.H.eq (x2 0 4 (by omega) (by omega) (by omega) (by omega) (by omega)) (fun k j _ => xr k j) (y2 0 8 (by omega)) (fun k n z1 z2 => y2 n k (by omega)), l1.P.eq (fun k _ j _ => xp k j) (zvR (y2 0 8 (by omega))) (fun k _ s _ => y2 12 _ (by omega)) n3, l1.Q.eq (fun n j z1 z2 => x2 n j (by omega) (by omega) (by omega) (by omega) (by omega)) (fun j => y2 5 j (by omega)), hB2, (x2 0 6 (by omega) (by omega) (by omega) (by omega) (by omega)).trans (l1.m.trans (y2 0 21 (by omega)).symm), l1.I.eq (zvR (y2 0 8 (by omega))) (by omega) (fun q _ => zmK (fun j => y2 1 j (by omega)) (fun j => y2 2 j (by omega))) (fun k _ => ⟨y2 6 k (by omega), y2 7 k (by omega), y2 8 k (by omega), y2 9 k (by omega), fun s _ => y2 12 _ (by omega)⟩)⟩
  obtain ⟨a1, a2⟩ := sa_eq (vR M) 0 0 D2 M2 hRc (by omega) (fun k hk z => by
    rw [xr, y2 6 k (by omega)]
    rw [y2 17 k (by omega)] at z
    rcases l3 k (by omega) with ⟨u1, u2⟩ | ⟨u1, u2⟩
    · exact u2
    · rcases z with z | z
      · omega
      · rw [u1] at z
        exact absurd z (by decide)) (fun k hk _ z => by
    rw [xr, y2 6 k (by omega)]
    rw [y2 17 k (by omega)] at z
    rcases l3 k (by omega) with ⟨u1, u2⟩ | ⟨u1, u2⟩
    · exact absurd u1 z
    · exact u2)
  exact ⟨by rw [a1], a2⟩
theorem remove_k {L A : Nat} {D M : am_D} {n : Int32} {k : Int32 → am_D → Prop} (h : Rel L A D M none) (hk : ∀ D', Rel L A D' (mRemove M n).2 none → k (mRemove M n).1 D') : (¬ dThere D n → k (-2) D) ∧ ∀ c, n = nI c → c < dK D → dThere D n → k (nI (dSaF L (dR D) 0 0 (dRem2 D c)).1) (dSaF L (dR D) 0 0 (dRem2 D c)).2 := by
  have h' := h.mT
  have ht := there_eq (c := n) h
  constructor
  · intro hz
    have e : mRemove M n = (-2, mT M) := by
      unfold mRemove
      rw [if_pos (Classical.not_not.mp (fun w => hz (ht.mpr w)))]
    rw [e] at hk
    exact hk D h'
  · intro c hn hc hth
    subst hn
    have hc8 : c < vC M := by
      rw [← h.n.2.2.2.2.2.2.2.1]
      exact hc
    have hcc : (nI c).toNatClampNeg = c := nI_clamp (by have := h.n.2.2.2.2.2.2.2.2; omega)
    have hz := ht.mp hth
    have e : mRemove M (nI c) = mRemOk (mT M) c := by
      unfold mRemove
      rw [if_neg hz, hcc]
    rw [e] at hk
    obtain ⟨c1, c2⟩ := remOk_eq h' (by rw [(mT.all h.G).2.2.2.2]; exact hc8) (by
      rw [mT_ne (by omega)]
      rw [hcc] at hz
      exact Classical.not_not.mp (fun w => hz (Or.inr (Or.inr w))))
    rw [c1]
    exact hk _ c2
