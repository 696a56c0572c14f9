/-! ===== desk and reference: the calls that book ===== -/
theorem book_k {L A : Nat} {D M : am_D} {a b t : Int32} {k : Int32 → am_D → Nat → Prop} (h : Rel L A D M none) (hk : ∀ A' D', Rel L A' D' (mBook M a b t).2 none → k (mBook M a b t).1 D' A') : ((dBad L D a b 1 ∨ ¬ dCl t) → k (-2) D A) ∧ ∀ x y, a = nI x → b = nI y → x < y → y ≤ L → dR D < 150 → dCl t → k (dBM L A D x y t (-1)).1 (dBM L A D x y t (-1)).2 (max A (dR D + 1)) := by
  have h' := h.mT
  obtain ⟨n1, n2, n3, n4, n5, n6, n7, n8, n9⟩ := h'.n
  have hw := wrong_i (a := a) (b := b) (t := t) (n := 1) h'
  constructor
  · intro hz
    have e : mBook M a b t = (-2, mT M) := by
      unfold mBook
      rw [if_pos (hw.mpr hz)]
    rw [e] at hk
    exact hk A D h'
  · intro x y ha hb hxy hy h150 ht
    subst ha hb
    have hnb : ¬ dBad L D (nI x) (nI y) 1 := by
      unfold dBad
      rw [Classical.not_not, h'.O.2.2.2.1, show (1 : Int32) = nI 1 from by decide, nI_addA, show (150 : Int32) = nI 150 from by decide]
      exact ⟨⟨nI_pos (by omega), (nI_lti (by omega) (by omega)).mpr hxy, (nI_lei (by omega) (by omega)).mpr hy⟩, (nI_lei (by omega) (by omega)).mpr (by omega)⟩
    have e : mBook M (nI x) (nI y) t = mBookFor (mT M) (-1) x y t := by
      unfold mBook
      rw [if_neg (fun z => (hw.mp z).elim hnb (fun w => w ht)), nI_clamp (n := x) (by omega), nI_clamp (n := y) (by omega)]
    rw [e] at hk
    obtain ⟨c1, c2⟩ := bookFor_eq (g := -1) h' (by omega) hxy hy ht
    rw [c1]
    exact hk _ _ c2
theorem dBad_ok {L A x y z : Nat} {D : am_D} (hO : dO L A D) (hxy : x < y) (hy : y ≤ L) (hz : dR D + z ≤ 150) : ¬ dBad L D (nI x) (nI y) (nI z) := by
  have := hO.2.1
  unfold dBad
  rw [Classical.not_not, hO.2.2.2.1, nI_addA, show (150 : Int32) = nI 150 from by decide]
  exact ⟨⟨nI_pos (by omega), (nI_lti (by omega) (by omega)).mpr hxy, (nI_lei (by omega) (by omega)).mpr hy⟩, (nI_lei (by omega) (by omega)).mpr (by omega)⟩
theorem agBook_k {L A : Nat} {D M : am_D} {g a b t : Int32} {k : Int32 → am_D → Nat → Prop} (h : Rel L A D M none) (hk : ∀ A' D', Rel L A' D' (mAgBook M g a b t).2 none → k (mAgBook M g a b t).1 D' A') : ((¬ dAgn g ∨ dBad L D a b 1 ∨ ¬ dCl t) → k (-2) D A) ∧ ∀ g' x y, g = nI g' → g' < 4 → a = nI x → b = nI y → x < y → y ≤ L → dR D < 150 → dCl t → (dOver D g' x y → k (-5) D A) ∧ (¬ dOver D g' x y → k (dBM L A D x y t g).1 (dBM L A D x y t g).2 (max A (dR D + 1))) := by
  have h' := h.mT
  obtain ⟨n1, n2, n3, n4, n5, n6, n7, n8, n9⟩ := h'.n
  have hw := wrong_i (a := a) (b := b) (t := t) (n := 1) h'
  constructor
  · intro hz
    have e : mAgBook M g a b t = (-2, mT M) := by
      unfold mAgBook
      rw [if_pos]
      rcases hz with z | z
      · exact (dAgn_i.mp z).elim Or.inl (fun y => Or.inr (Or.inl y))
      · exact Or.inr (Or.inr (hw.mpr z))
    rw [e] at hk
    exact hk A D h'
  · intro g' x y hg hg4 ha hb hxy hy h150 ht
    subst hg ha hb
    have hnb : ¬ dBad L D (nI x) (nI y) 1 := dBad_ok (z := 1) h'.O hxy hy (by omega)
    have hna : ¬ (nI g' < 0 ∨ 3 < nI g') := by
      rw [← dAgn_i, Classical.not_not]
      exact ⟨nI_pos (by omega), (nI_lti (b := 4) (by omega) (by omega)).mpr hg4⟩
    have hov := over_eq (a := x) (b := y) h'.R h'.I.st h'.Q n4 hg4 hy
    have e : mAgBook M (nI g') (nI x) (nI y) t = @ite (Int32 × am_D) (mOver (mT M) g' x y) (Classical.propDecidable _) (-5, mT M) (mBookFor (mT M) (nI g') x y t) := by
      unfold mAgBook
      rw [if_neg, nI_clamp (n := g') (by omega), nI_clamp (n := x) (by omega), nI_clamp (n := y) (by omega)]
      rintro (z | z | z)
      · exact hna (Or.inl z)
      · exact hna (Or.inr z)
      · exact (hw.mp z).elim hnb (fun w => w ht)
    rw [e] at hk
    refine ⟨fun z => ?_, fun z => ?_⟩
    · rw [if_pos (hov.mp z)] at hk
      exact hk A D h'
    · rw [if_neg (fun w => z (hov.mpr w))] at hk
      obtain ⟨c1, c2⟩ := bookFor_eq (g := nI g') h' (by omega) hxy hy ht
      rw [c1]
      exact hk _ _ c2
theorem bkSeat_k {L A : Nat} {D M : am_D} {a b c s : Int32} {k : Int32 → am_D → Nat → Prop} (h : Rel L A D M none) (hk : ∀ A' D', Rel L A' D' (mBkSeat M a b c s).2 none → k (mBkSeat M a b c s).1 D' A') : ((dFind D c s = -1 ∨ dBad L D a b 1) → k (-2) D A) ∧ ∀ q x y, dFind D c s = nI q → q < 80 → a = nI x → b = nI y → x < y → y ≤ L → dR D < 150 → (¬ dFree D q (wayI a b) → k (-3) D A) ∧ (dFree D q (wayI a b) → k (nI (dR D)) (dBF L A D x y q) (max A (dR D + 1))) := by
  have h' := h.mT
  obtain ⟨n1, n2, n3, n4, n5, n6, n7, n8, n9⟩ := h'.n
  have hm : ∀ n j, n ≠ 0 → mT M n j = M n j := fun n j z => mT_ne (fun y => z y.1)
  have hfi := find_eq h' (c := c) (s := s)
  have hw := wrong_i (a := a) (b := b) (t := 0) (n := 1) h'
  have h00 : dCl 0 := ⟨by decide, by decide⟩
  constructor
  · intro hz
    have e : mBkSeat M a b c s = (-2, mT M) := by
      unfold mBkSeat
      rw [if_pos]
      rcases hz with z | z
      · left
        rw [hfi] at z
        rw [z]
        decide
      · exact Or.inr (hw.mpr (Or.inl z))
    rw [e] at hk
    exact hk A D h'
  · intro q x y hq hq80 ha hb hxy hy h150
    subst ha hb
    rw [hfi] at hq
    obtain ⟨c1, c2, c3, c4, c5, c6⟩ := seatIn_c h' hq hq80
    rw [hm 2 _ (by omega)] at c2
    have hnb : ¬ dBad L D (nI x) (nI y) 1 := dBad_ok (z := 1) h'.O hxy hy (by omega)
    have hfr := ft_eq (a := x) (b := y) h'.T h'.K (rO_m1 n4) n3 n4 c1 n6 (dCl_m1 c3) (by omega) hy
    have e : mBkSeat M (nI x) (nI y) c s = @ite (Int32 × am_D) (mFT (mT M) (nI q) x y (-1)) (Classical.propDecidable _) (nI (vR M), mSit (mBeg (mT M) (nI x) (nI y) (D 2 q) (-1) 2) (vR M) (nI q)) (-3, mT M) := by
      unfold mBkSeat
      rw [if_neg, hq, nI_clamp (n := x) (by omega), nI_clamp (n := y) (by omega), c2]
      rintro (z | z)
      · rw [hq] at z
        exact nI_pos (by omega) z
      · exact (hw.mp z).elim hnb (fun w => w h00)
    rw [e] at hk
    have hvR : vR (mT M) = vR M := (mT.all h.G).2.2.1
    refine ⟨fun z => ?_, fun z => ?_⟩
    · rw [if_neg (fun w => z (hfr.mp w))] at hk
      exact hk A D h'
    · rw [if_pos (hfr.mpr z)] at hk
      have hb := bf_rel h' (by omega) hxy hy c1 rfl c3 (hfr.mpr z)
      rw [hvR] at hb n7
      rw [n7] at *
      exact hk _ _ hb
theorem group_k {L A : Nat} {D M : am_D} {a b t n : Int32} {k : Int32 → am_D → Nat → Prop} (h : Rel L A D M none) (hk : ∀ A' D', Rel L A' D' (mGroup M a b t n).2 none → k (mGroup M a b t n).1 D' A') : ((n < 2 ∨ 12 < n ∨ dBad L D a b n ∨ ¬ dCl t) → k (-2) D A) ∧ ∀ x y z, a = nI x → b = nI y → n = nI z → 2 ≤ z → z ≤ 12 → x < y → y ≤ L → dR D + z ≤ 150 → dCl t → (am_fst (fun c => z ≤ dCwN D t (wayI a b) c) (dK D) 0 = -1 → k (-3) D A) ∧ ∀ c, c < dK D → am_fst (fun c => z ≤ dCwN D t (wayI a b) c) (dK D) 0 = nI c → k (nI (dR D)) (dGrF L x y z (wayI a b) (dF D (c + 1) - dF D c) (dF D c) 0 A D).2 (dGrF L x y z (wayI a b) (dF D (c + 1) - dF D c) (dF D c) 0 A D).1 := by
  have h' := h.mT
  obtain ⟨n1, n2, n3, n4, n5, n6, n7, n8, n9⟩ := h'.n
  have hw := wrong_i (a := a) (b := b) (t := t) (n := n) h'
  have hvR : vR (mT M) = vR M := (mT.all h.G).2.2.1
  constructor
  · intro hz
    have e : mGroup M a b t n = (-2, mT M) := by
      unfold mGroup
      rw [if_pos]
      rcases hz with z | z | z
      · exact Or.inl z
      · exact Or.inr (Or.inl z)
      · exact Or.inr (Or.inr (hw.mpr z))
    rw [e] at hk
    exact hk A D h'
  · intro x y z ha hb hn hz2 hz12 hxy hy h150 ht
    subst ha hb hn
    have hnb : ¬ dBad L D (nI x) (nI y) (nI z) := dBad_ok h'.O hxy hy h150
    have e : mGroup M (nI x) (nI y) t (nI z) = mGroupOk (mT M) x y t z := by
      unfold mGroup
      rw [if_neg, nI_clamp (n := x) (by omega), nI_clamp (n := y) (by omega), nI_clamp (n := z) (by omega)]
      rintro (w | w | w)
      · have := (nI_lti (a := z) (b := 2) (by omega) (by omega)).mp w
        omega
      · have := (nI_lti (a := 12) (b := z) (by omega) (by omega)).mp w
        omega
      · exact (hw.mp w).elim hnb (fun v => v ht)
    have hfst : am_fst (fun c => z ≤ dCwN D t (wayI (nI x) (nI y)) c) (dK D) 0 = mGrW (mT M) x y t z := by
      unfold mGrW
      rw [n8]
      exact am_fst_c _ _ (fun c _ hc => by rw [grw_eq h' ht hxy hy c (by omega)])
    rw [e] at hk
    rw [hfst]
    refine ⟨fun w => ?_, fun c hc w => ?_⟩
    · have e2 : mGroupOk (mT M) x y t z = (-3, mT M) := by
        unfold mGroupOk
        rw [w, if_pos (by decide)]
      rw [e2] at hk
      exact hk A D h'
    · rw [n8] at hc
      have hc8 : c < 8 := by omega
      have e2 : mGroupOk (mT M) x y t z = (nI (vR (mT M)), mGrF x y t (vR (mT M) + z) (vF (mT M) (c + 1) - vF (mT M) c) (vF (mT M) c) (mT M)) := by
        unfold mGroupOk
        rw [w, if_neg (nI_pos (by omega)), nI_clamp (n := c) (by omega)]
      rw [e2] at hk
      have hge : z ≤ mGrC (mT M) x y t c := by
        unfold mGrW at w
        obtain ⟨j, j1, j2, j3, j4, -⟩ := am_fst_at (p := fun c => z ≤ mGrC (mT M) x y t c) (vC (mT M)) 0 (by omega) (by rw [w]; exact nI_pos (by omega))
        rw [w, nI_inji (by omega) (by omega)] at j4
        rw [j4]
        exact j3
      have hcls := grp_c h' ht hc (show 1 ≤ z by omega) hge
      have g1 := h'.G.mono (show c ≤ c + 1 by omega) (by omega)
      have g2 := h'.G.mono (show c + 1 ≤ vC (mT M) by omega) (Nat.le_refl _)
      rw [h'.F (show c + 1 ≤ vC (mT M) by omega), h'.F (show c ≤ vC (mT M) by omega), n7]
      refine hk _ _ (gr_eq hxy hy ht (by omega) _ _ 0 A D (mT M) h' (by omega) (by omega) (fun u u1 u2 => hcls u u1 (by omega)))
theorem changes_k {L A : Nat} {D M : am_D} {a b t : Int32} {k : Int32 → am_D → Nat → Prop} (h : Rel L A D M none) (hk : ∀ A' D', Rel L A' D' (mBkCh M a b t).2 none → k (mBkCh M a b t).1 D' A') : ((dBad L D a b 1 ∨ ¬ dCl t) → k (-2) D A) ∧ ∀ x y, a = nI x → b = nI y → x < y → y ≤ L → dR D < 150 → dCl t → (dFewF L D y t (y - x) a (-1) = -1 → k (-3) D A) ∧ (¬ dFewF L D y t (y - x) a (-1) = -1 → k (nI (dR D)) (dBcF L (dR D) t (y - x) x (-1) (am_up (dEnter L A D a b t (-1)) (sd_rn (dR D)) 6 2)) (max A (dR D + 1))) := by
  have h' := h.mT
  obtain ⟨n1, n2, n3, n4, n5, n6, n7, n8, n9⟩ := h'.n
  have hw := wrong_i (a := a) (b := b) (t := t) (n := 1) h'
  have hvR : vR (mT M) = vR M := (mT.all h.G).2.2.1
  constructor
  · intro hz
    have e : mBkCh M a b t = (-2, mT M) := by
      unfold mBkCh
      rw [if_pos (hw.mpr hz)]
    rw [e] at hk
    exact hk A D h'
  · intro x y ha hb hxy hy h150 ht
    subst ha hb
    have hnb : ¬ dBad L D (nI x) (nI y) 1 := dBad_ok (z := 1) h'.O hxy hy (by omega)
    have hfew : dFewF L D y t (y - x) (nI x) (-1) = mFew (mT M) x y t := by
      unfold mFew
      exact few_eq h'.S h'.T h'.K n3 n4 n6 ht hy (y - x) (y - x + 1) x x 0 (Or.inl rfl) (by omega) (by omega) (by omega)
    have e : mBkCh M (nI x) (nI y) t = @ite (Int32 × am_D) (mFew (mT M) x y t < 0) (Classical.propDecidable _) (-3, mT M) (nI (vR M), mBcF (vR M) y t (y - x + 1) x (mBeg (mT M) (nI x) (nI y) t (-1) 2)) := by
      unfold mBkCh
      rw [if_neg (fun z => (hw.mp z).elim hnb (fun w => w ht)), nI_clamp (n := x) (by omega), nI_clamp (n := y) (by omega)]
    have hneg : ∀ f at' n, n + f < 2 ^ 31 → (mFewF (mT M) y t f at' n < 0 → mFewF (mT M) y t f at' n = -1) := by
      intro f
      induction f with
      | zero =>
        intro at' n hn z
        unfold mFewF at z ⊢
        cases n with
        | zero => rw [nI_0]; decide
        | succ n =>
          rw [nI_pred] at z
          exact absurd z (nI_pos (by omega))
      | succ f ih =>
        intro at' n hn z
        unfold mFewF at z ⊢
        by_cases c1 : y ≤ at'
        · rw [if_pos c1] at z ⊢
          cases n with
          | zero => rw [nI_0]; decide
          | succ n =>
            rw [nI_pred] at z
            exact absurd z (nI_pos (by omega))
        · rw [if_neg c1] at z ⊢
          by_cases c2 : mLg (mT M) at' t < 0
          · rw [if_pos c2]
          · rw [if_neg c2] at z ⊢
            exact ih _ _ (by omega) z
    rw [e] at hk
    rw [hfew]
    refine ⟨fun z => ?_, fun z => ?_⟩
    · rw [if_pos (by rw [z]; decide)] at hk
      exact hk A D h'
    · have hpos : ¬ mFew (mT M) x y t < 0 := fun w => z (hneg _ _ _ (by omega) w)
      rw [if_neg hpos] at hk
      have hen := enter_rel (g := -1) h' (by omega) hxy hy ht (Or.inr rfl)
      have hb3 := (mBeg.all (t := t) (g := -1) (h := 2) h'.G h'.GR (by omega) hxy (show y ≤ vL (mT M) by omega)).2.2.1
      obtain ⟨v1, v2, v3, v4⟩ := mBeg_w (M := mT M) (t := t) (g := -1) (hh := 2) (x := x) (y := y) (by omega) (by omega)
      have hen2 := hen.x (hen.I.none (by rw [v3]; decide))
      have hbc := bc_eq (M0 := mT M) (r := vR (mT M)) ht hy n1 (by omega) (y - x + 1) x 0 _ _ (-1) hen2 (by omega) v3 (by omega) v2 (fun s s1 s2 => by rw [mBeg_row s2, if_pos rfl]) (Or.inl rfl) (mSim_beg h'.G h'.GR (by omega) hxy (by omega) x) hpos (by omega) (by omega)
      rw [hvR] at hbc n7
      rw [n7] at *
      exact hk _ _ hbc
