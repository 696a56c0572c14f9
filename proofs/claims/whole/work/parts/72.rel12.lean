/-! ===== desk and reference: calls that ask, coach, flags, quota ===== -/
theorem i_lt2 {t : Int32} : t < 2 ↔ ¬ 1 < t := by
  rw [Int32.lt_iff_toInt_lt, Int32.lt_iff_toInt_lt, show (2 : Int32).toInt = 2 from by decide, show (1 : Int32).toInt = 1 from by decide]
  omega
theorem i_lt4 {t : Int32} : t < 4 ↔ ¬ 3 < t := by
  rw [Int32.lt_iff_toInt_lt, Int32.lt_iff_toInt_lt, show (4 : Int32).toInt = 4 from by decide, show (3 : Int32).toInt = 3 from by decide]
  omega
theorem dCl_i {t : Int32} : ¬ dCl t ↔ t < 0 ∨ 1 < t := by
  unfold dCl
  rw [i_lt2]
  constructor
  · intro h
    by_cases h0 : t < 0
    · exact Or.inl h0
    · exact Or.inr (Classical.not_not.mp (fun z => h ⟨h0, z⟩))
  · rintro (h | h) ⟨z1, z2⟩
    · exact z1 h
    · exact z2 h
theorem dAgn_i {t : Int32} : ¬ dAgn t ↔ t < 0 ∨ 3 < t := by
  unfold dAgn
  rw [i_lt4]
  constructor
  · intro h
    by_cases h0 : t < 0
    · exact Or.inl h0
    · exact Or.inr (Classical.not_not.mp (fun z => h ⟨h0, z⟩))
  · rintro (h | h) ⟨z1, z2⟩
    · exact z1 h
    · exact z2 h
theorem dStr_i {L : Nat} {s : Int32} : ¬ dStr L s ↔ s < 0 ∨ nI L ≤ s := by
  unfold dStr
  constructor
  · intro h
    by_cases h0 : s < 0
    · exact Or.inl h0
    · exact Or.inr (Int32.not_lt.mp (fun z => h ⟨h0, z⟩))
  · rintro (h | h) ⟨z1, z2⟩
    · exact z1 h
    · exact absurd z2 (Int32.not_lt.mpr h)
theorem dStr_e {L : Nat} {s : Int32} (h : dStr L s) (hL : L ≤ 29) : ∃ s' : Nat, s' < L ∧ s = nI s' ∧ s.toNatClampNeg = s' := by
  obtain ⟨j, hj, e, -, hj2, -⟩ := pk_mu h.1 (Int32.not_le.mpr h.2) (by omega)
  exact ⟨j, hj, e, hj2⟩
theorem dAgn_e {g : Int32} (h : dAgn g) : ∃ g' : Nat, g' < 4 ∧ g = nI g' ∧ g.toNatClampNeg = g' := by
  obtain ⟨j, hj, e, -, hj2, -⟩ := pk_mu (L := 4) h.1 (Int32.not_le.mpr h.2) (by omega)
  exact ⟨j, hj, e, hj2⟩
theorem way_i {L : Nat} {M : am_D} {a b : Int32} (h1 : M 0 1 = nI (L + 1)) (hL : L ≤ 29) : mWay M a b ↔ (¬ a < 0 ∧ a < b ∧ b ≤ nI L) := by
  unfold mWay
  rw [h1, Int32.not_le, i32_lt1 (by omega), Int32.not_le]
  exact ⟨fun z => ⟨z.1, z.2.2, z.2.1⟩, fun z => ⟨z.1, z.2.2, z.2.1⟩⟩
theorem way_e {L : Nat} {a b : Int32} (h : ¬ a < 0 ∧ a < b ∧ b ≤ nI L) (hL : L ≤ 29) : ∃ x y : Nat, a = nI x ∧ b = nI y ∧ x < y ∧ y ≤ L ∧ a.toNatClampNeg = x ∧ b.toNatClampNeg = y := by
  obtain ⟨h1, h2, h3⟩ := h
  have hb0 : ¬ b < 0 := fun z => h1 (Int32.lt_trans h2 z)
  have hb : ¬ nI (L + 1) ≤ b := fun z => by
    rw [Int32.le_iff_toInt_le, nI_toInt (by omega)] at z h3
    omega
  obtain ⟨y, hy, e2, -, hy2, -⟩ := pk_mu hb0 hb (by omega)
  obtain ⟨x, hx, e1, -, hx2, -⟩ := pk_mu (L := y) h1 (by rw [← e2]; exact Int32.not_le.mpr h2) (by omega)
  exact ⟨x, y, e1, e2, hx, by omega, hx2, hy2⟩
theorem Rel.M1 {L A : Nat} {D M : am_D} {x : Option Nat} (h : Rel L A D M x) : M 0 1 = nI (L + 1) := by
  rw [← h.S.1]
  exact h.G.1
theorem find_eq {L A : Nat} {D M : am_D} {x : Option Nat} {c s : Int32} (h : Rel L A D M x) : dFind D c s = mSeatIn M c s := by
  obtain ⟨n1, n2, n3, n4, n5, n6, n7, n8, n9⟩ := h.n
  have e17 : D 1 7 = M 0 2 := by
    rw [h.sg.2.2.1, n8, h.G.2.2.2.1]
  unfold dFind mSeatIn
  by_cases h1 : c < 0
  · rw [if_pos (Or.inl (fun z => z.1 h1)), if_pos (Or.inl h1)]
  · by_cases h2 : M 0 2 ≤ c
    · rw [if_pos (Or.inl (fun z => z.2.1 (by rw [e17]; exact h2))), if_pos (Or.inr (Or.inl h2))]
    · have h2' := h2
      rw [h.G.2.2.2.1] at h2'
      obtain ⟨j, hj, rfl, -, hj2, -⟩ := pk_mu h1 h2' (by omega)
      rw [hj2, h.S.2.2.1 j (by omega), h.S.2.2.1 (j + 1) (by omega)]
      have e7 := h.S.2.2.2.1 j hj
      by_cases h3 : M 3 j = 0
      · have hth : dThere D (nI j) := ⟨h1, by rw [e17]; exact h2, by rw [hj2, e7]; exact fun z => z h3⟩
        by_cases h4 : s < 0
        · rw [if_pos (Or.inr (Or.inl h4)), if_pos (Or.inr (Or.inr (Or.inr (Or.inl h4))))]
        · by_cases h5 : M 1 (j + 1) - M 1 j ≤ s
          · rw [if_pos (Or.inr (Or.inr h5)), if_pos (Or.inr (Or.inr (Or.inr (Or.inr h5))))]
          · rw [if_neg, if_neg]
            · rintro (z | z | z | z | z)
              · exact h1 z
              · exact h2 z
              · exact z h3
              · exact h4 z
              · exact h5 z
            · rintro (z | z | z)
              · exact z hth
              · exact h4 z
              · exact h5 z
      · rw [if_pos (Or.inl (fun z => z.2.2 (by rw [hj2, e7]; exact h3))), if_pos (Or.inr (Or.inr (Or.inl h3)))]
theorem there_eq {L A : Nat} {D M : am_D} {x : Option Nat} {c : Int32} (h : Rel L A D M x) : dThere D c ↔ ¬ (c < 0 ∨ M 0 2 ≤ c ∨ ¬ M 3 c.toNatClampNeg = 0) := by
  obtain ⟨n1, n2, n3, n4, n5, n6, n7, n8, n9⟩ := h.n
  have e17 : D 1 7 = M 0 2 := by
    rw [h.sg.2.2.1, n8, h.G.2.2.2.1]
  unfold dThere
  rw [e17]
  constructor
  · rintro ⟨z1, z2, z3⟩ (y | y | y)
    · exact z1 y
    · exact z2 y
    · have h2' := z2
      rw [h.G.2.2.2.1] at h2'
      obtain ⟨j, hj, rfl, -, hj2, -⟩ := pk_mu z1 h2' (by omega)
      rw [hj2] at z3 y
      exact z3 ((h.S.2.2.2.1 j hj).mpr y)
  · intro z
    have z1 : ¬ c < 0 := fun y => z (Or.inl y)
    have z2 : ¬ M 0 2 ≤ c := fun y => z (Or.inr (Or.inl y))
    refine ⟨z1, z2, fun y => z (Or.inr (Or.inr ?_))⟩
    have h2' := z2
    rw [h.G.2.2.2.1] at h2'
    obtain ⟨j, hj, rfl, -, hj2, -⟩ := pk_mu z1 h2' (by omega)
    rw [hj2] at y ⊢
    exact (h.S.2.2.2.1 j hj).mp y
/-- what rides alone have changed -/
theorem Rel.ride {L A A' : Nat} {D D' M M' : am_D} {x y : Option Nat} (h : Rel L A D M x) (hG : mG M') (hGR : mGR M') (hO : dO L A' D') (hT : rT L D' M') (hR : rR D' M') (hP : rP L D' M') (hm : D' 0 6 = M' 0 21) (hI : rI M' y) (ed : ∀ n j, 1 ≤ n → n ≤ 17 → n ≠ 5 → n ≠ 12 → D' n j = D n j) (em : ∀ n j, n = 0 ∧ (j = 1 ∨ j = 2 ∨ j = 17) ∨ 1 ≤ n ∧ n ≤ 5 ∨ 14 ≤ n ∧ n ≤ 16 → M' n j = M n j) : Rel L A' D' M' y := by
  have eF : vF M' (vC M') = vF M (vC M) := by rw [zvF (fun j => em 1 j (by omega)), zvC (em 0 2 (by omega))]
  exact ⟨hG, hGR, hO, h.sg.eq (fun j => ed 1 j (by omega) (by omega) (by omega) (by omega)), h.bg.eq (ed 9 2 (by omega) (by omega) (by omega) (by omega)), h.S.eq (fun n j z => ed n j (by omega) (by omega) (by omega) (by omega)) (fun n j z => em n j (by omega)), hT, h.K.eq (ed 1 1 (by omega) (by omega) (by omega) (by omega)) (fun q => ed 2 q (by omega) (by omega) (by omega) (by omega)) (fun q => ed 6 q (by omega) (by omega) (by omega) (by omega)) (em 0 17 (by omega)) (fun n j z => em n j (by omega)), hR, hP, h.Q.eq (fun n j z1 z2 => ed n j (by omega) (by omega) (by omega) (by omega)) (fun j => em 5 j (by omega)), h.B.eq (ed 9 2 (by omega) (by omega) (by omega) (by omega)) (fun n j z => ed n j (by omega) (by omega) (by omega) (by omega)) (em 0 17 (by omega)) (Nat.le_of_eq eF.symm) (fun n j z => em n j (by omega)), hm, hI⟩
theorem load_eq {L A : Nat} {D M : am_D} {x : Option Nat} {s t : Int32} (h : Rel L A D M x) : dLoad L D s t = mLoad M s t := by
  have h' := h.mT
  unfold dLoad mLoad
  rw [h.n.1]
  by_cases hz : ¬ dStr L s ∨ ¬ dCl t
  · rw [if_pos hz, if_pos]
    rw [dStr_i, dCl_i] at hz
    rcases hz with (z | z) | (z | z)
    · exact Or.inl z
    · exact Or.inr (Or.inl z)
    · exact Or.inr (Or.inr (Or.inl z))
    · exact Or.inr (Or.inr (Or.inr z))
  · rw [if_neg hz, if_neg, go_eq h'.R h'.I.st, (mT.all h.G).2.2.1]
    intro z
    refine hz ?_
    rw [dStr_i, dCl_i]
    rcases z with z | z | z | z
    · exact Or.inl (Or.inl z)
    · exact Or.inl (Or.inr z)
    · exact Or.inr (Or.inl z)
    · exact Or.inr (Or.inr z)
theorem cntf_eq {L A a b : Nat} {D M : am_D} {x : Option Nat} {t : Int32} (h : Rel L A D M x) (ht : dCl t) (hab : a ≤ b) (hb : b ≤ L) : ∀ f i acc, i + f ≤ dC D → am_cnt (fun q => D 2 q = t ∧ dFree D q (wayI (nI a) (nI b))) f i acc = am_cnt (fun q => mCl M q t ∧ mFT M (nI q) a b (-1)) f i acc := by
  obtain ⟨n1, n2, n3, n4, n5, n6, n7, n8, n9⟩ := h.n
  intro f i acc hf
  refine am_cnt_c _ _ _ (fun q _ hq => ?_)
  rw [h.S.cl (by omega) ht]
  constructor
  · rintro ⟨z1, z2⟩
    exact ⟨z1, (ft_eq h.T h.K (rO_m1 n4) n3 n4 (by omega) n6 (by rw [z1]; exact dCl_m1 ht) hab hb).mpr z2⟩
  · rintro ⟨z1, z2⟩
    exact ⟨z1, (ft_eq h.T h.K (rO_m1 n4) n3 n4 (by omega) n6 (by rw [z1]; exact dCl_m1 ht) hab hb).mp z2⟩
theorem free_eq {L A : Nat} {D M : am_D} {x : Option Nat} {s t : Int32} (h : Rel L A D M x) : dFr L D s t = mFree M s t := by
  have h' := h.mT
  unfold dFr mFree
  rw [h.n.1]
  by_cases hz : ¬ dStr L s ∨ ¬ dCl t
  · rw [if_pos hz, if_pos]
    rw [dStr_i, dCl_i] at hz
    rcases hz with (z | z) | (z | z)
    · exact Or.inl z
    · exact Or.inr (Or.inl z)
    · exact Or.inr (Or.inr (Or.inl z))
    · exact Or.inr (Or.inr (Or.inr z))
  · have hs : dStr L s := Classical.not_not.mp (fun z => hz (Or.inl z))
    have ht : dCl t := Classical.not_not.mp (fun z => hz (Or.inr z))
    obtain ⟨n1, n2, n3, n4, n5, n6, n7, n8, n9⟩ := h'.n
    rw [if_neg hz, if_neg]
    · obtain ⟨s', hs', rfl, hs2⟩ := dStr_e hs n3
      rw [hs2, nI_add1]
      unfold dCnt
      rw [cntf_eq h' ht (by omega) (by omega) _ _ _ (by omega), n5]
      congr 1
      refine am_cnt_c _ _ _ (fun q _ hq => ?_)
      unfold mFT
      constructor
      · rintro ⟨z1, z2⟩
        exact ⟨z1, z2 s' (by omega) (by omega)⟩
      · rintro ⟨z1, z2⟩
        refine ⟨z1, fun u u1 u2 => ?_⟩
        rw [show u = s' by omega]
        exact z2
    · intro z
      refine hz ?_
      rw [dStr_i, dCl_i]
      rcases z with z | z | z | z
      · exact Or.inl (Or.inl z)
      · exact Or.inl (Or.inr z)
      · exact Or.inr (Or.inl z)
      · exact Or.inr (Or.inr z)
theorem stand_eq {L A : Nat} {D M : am_D} {x : Option Nat} {i : Int32} (h : Rel L A D M x) : dStF D (dR D) 0 i = mStF M i (vR M) 0 0 := by
  rw [h.R.1]
  exact std_eq h.R (vR M) 0 0 i (by omega) (by rw [nI_0, Int32.add_zero])
theorem offer_eq {L A : Nat} {D M : am_D} {x : Option Nat} {a b t : Int32} (h : Rel L A D M x) : dOffer L D a b t = mOffer M a b t := by
  have h' := h.mT
  obtain ⟨n1, n2, n3, n4, n5, n6, n7, n8, n9⟩ := h'.n
  unfold dOffer mOffer
  by_cases hz : ¬ (¬ a < 0 ∧ a < b ∧ b ≤ nI L) ∨ ¬ dCl t
  · rw [if_pos hz, if_pos]
    rw [way_i h'.M1 n3, ← dCl_i]
    exact hz
  · rw [if_neg hz, if_neg]
    · have hw := Classical.not_not.mp (fun z => hz (Or.inl z))
      have ht := Classical.not_not.mp (fun z => hz (Or.inr z))
      obtain ⟨x', y', rfl, rfl, hxy, hy, e1, e2⟩ := way_e hw n3
      rw [e1, e2]
      unfold mFew
      have := few_eq h'.S h'.T h'.K n3 n4 n6 ht hy (y' - x') (y' - x' + 1) x' x' 0 (Or.inl rfl) (by omega) (by omega) (by omega)
      rw [← this]
      rfl
    · rw [way_i h'.M1 n3, ← dCl_i]
      exact hz
theorem seatOf_eq {L A : Nat} {D M : am_D} {x : Option Nat} {r s : Int32} (h : Rel L A D M x) : dSeatOf D r s = mSeatOf M r s := by
  have h' := h.mT
  obtain ⟨n1, n2, n3, n4, n5, n6, n7, n8, n9⟩ := h'.n
  have hm : ∀ n j, n ≠ 0 → mT M n j = M n j := fun n j z => mT_ne (fun y => z y.1)
  unfold dSeatOf mSeatOf
  have hl := liv_eq (r := r) h'.R h'.I.st h'.O.2.2.2.1 h'.G.2.2.2.2.2.1 n4
  by_cases h1 : dLiv D r
  · have h1' := hl.mp h1
    obtain ⟨i, rfl, hi, hi2, -⟩ := mLiv_e h'.G h1'
    obtain ⟨w1, w2, w3, w4, w5, w6, w7⟩ := h'.V.w hi
    rw [hi2, w1, w2, ← hm 12 _ (by omega), h.n.1]
    by_cases h2 : s < 0 ∨ nI L ≤ s
    · rw [if_pos (Or.inr h2), if_pos]
      refine Or.inr (fun z => ?_)
      rcases h2 with h2 | h2
      · exact absurd (Int32.lt_of_le_of_lt z.1 h2) (nI_pos (by omega))
      · have := Int32.lt_of_le_of_lt h2 z.2
        rw [nI_lti (by omega) (by omega)] at this
        omega
    · obtain ⟨s', hs', rfl, hs2⟩ := dStr_e (L := L) (s := s) (Classical.not_not.mp (fun z => h2 (dStr_i.mp z))) n3
      have hR2 : ¬ (¬ mLiv (mT M) (nI i) ∨ nI s' < 0 ∨ nI L ≤ nI s') := fun z => z.elim (fun y => y h1') h2
      rw [if_neg hR2, hs2]
      by_cases h3 : nI (va (mT M) i) ≤ nI s' ∧ nI s' < nI (vb (mT M) i)
      · have hD2 : ¬ (¬ dLiv D (nI i) ∨ ¬ (nI (va (mT M) i) ≤ nI s' ∧ nI s' < nI (vb (mT M) i))) := fun z => z.elim (fun y => y h1) (fun y => y h3)
        rw [if_neg hD2, h'.P i hi s' hs']
        rcases h'.I.w i hi s' (by omega) with z | ⟨-, -, q, z1, z2⟩
        · rw [z, if_pos rfl]
          unfold mTold
          rw [if_pos (by decide)]
        · rw [z2, if_neg (nI_m1 (by omega)), nI_clamp (n := q) (by omega)]
          exact h'.S.2.2.2.2.2.2.2.1 q (by omega)
      · rw [if_pos (Or.inr h3)]
        rcases h'.I.w i hi s' (by omega) with z | ⟨y1, y2, q, z1, z2⟩
        · rw [z]
          unfold mTold
          rw [if_pos (by decide)]
        · exact absurd ⟨(nI_lei (by omega) (by omega)).mpr y1, (nI_lti (by omega) (by omega)).mpr y2⟩ h3
  · rw [if_pos (Or.inl h1), if_pos (Or.inl (fun z => h1 (hl.mpr z)))]
