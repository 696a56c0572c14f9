/-! ===== desk and reference: flags, quota, coach ===== -/
theorem rS.eq4 {L : Nat} {D D' M M' : am_D} (h : rS L D M) (hD : ∀ n j, n = 1 ∨ n = 2 ∨ n = 3 ∨ n = 7 ∨ n = 8 → D' n j = D n j) (hM : ∀ n j, n = 1 ∨ n = 2 ∨ n = 3 ∨ n = 0 ∧ (j = 1 ∨ j = 2) → M' n j = M n j) (h4 : ∀ q, D' 4 q = M' 4 q) : rS L D' M' := by
  have e1 : ∀ j, M' 1 j = M 1 j := fun j => hM 1 j (by omega)
  have eK : dK D' = dK D := by
    unfold dK
    rw [hD 1 7 (by omega)]
  have edC := zdC (hD 1 1 (by omega))
  have eC := zvC (hM 0 2 (by omega))
  obtain ⟨h1, h2, h3, h4', h5, h6, h7, h8, h9, h10⟩ := h
  refine ⟨by rw [zvL (hM 0 1 (by omega))]; exact h1, by rw [eK, eC]; exact h2, fun c hc => ?_, fun c hc => ?_, fun c hc => ?_, by rw [edC, eC, zvF e1]; exact h6, fun q hq => ?_, fun q hq => ?_, h4, fun c hc => ?_⟩
  · rw [hD 8 c (by omega), e1]
    exact h3 c (by omega)
  · rw [hD 7 c (by omega), hM 3 c (by omega)]
    exact h4' c (by omega)
  · rw [hM 3 c (by omega)]
    exact h5 c (by omega)
  · rw [hD 2 q (by omega), mCo_c e1, hM 3 _ (by omega), hM 2 _ (by omega)]
    exact h7 q (by omega)
  · rw [hD 3 q (by omega), mTold_c e1]
    exact h8 q (by omega)
  · rw [hM 2 c (by omega)]
    exact h10 c (by omega)
theorem flags_eq {L A : Nat} {D M : am_D} {c s m : Int32} (h : Rel L A D M none) : (dFlags D c s m).1 = (mFlags M c s m).1 ∧ Rel L A (dFlags D c s m).2 (mFlags M c s m).2 none := by
  have h' := h.mT
  obtain ⟨n1, n2, n3, n4, n5, n6, n7, n8, n9⟩ := h'.n
  unfold dFlags mFlags
  rw [find_eq h' (c := c) (s := s)]
  have hm : ¬ (¬ m < 0 ∧ m ≤ 255) ↔ m < 0 ∨ 255 < m := by
    rw [← Int32.not_lt]
    constructor
    · intro z
      by_cases z1 : m < 0
      · exact Or.inl z1
      · exact Or.inr (Classical.not_not.mp (fun y => z ⟨z1, y⟩))
    · rintro (z | z) ⟨y1, y2⟩
      · exact y1 z
      · exact y2 z
  rw [hm]
  rcases mSeatIn_s h'.G c s with e | ⟨c', q, e1, e2, e3, e, e5, e6, e7, e8⟩
  · rw [if_pos (Or.inl e), if_pos (Or.inl (by rw [e]; decide))]
    exact ⟨rfl, h'⟩
  · by_cases hz : m < 0 ∨ 255 < m
    · rw [if_pos (Or.inr hz), if_pos (Or.inr hz)]
      exact ⟨rfl, h'⟩
    · rw [if_neg (fun z => z.elim (fun y => nI_m1 (by omega) (e.symm.trans y)) hz), if_neg (fun z => z.elim (fun y => nI_pos (n := q) (by omega) (by rw [← e]; exact y)) hz), e, nI_clamp (n := q) (by omega)]
      refine ⟨rfl, ?_⟩
      have ed : ∀ n j, n ≠ 4 → am_up D 4 q m n j = D n j := fun n j z => am_up_at (fun y => z y.1)
      have em : ∀ n j, n ≠ 4 → am_up (mT M) 4 q m n j = mT M n j := fun n j z => am_up_at (fun y => z y.1)
      have er : ∀ i j, am_up D 4 q m (sd_rn i) j = D (sd_rn i) j := fun i j => ed _ j (by unfold sd_rn; omega)
      have ep : ∀ i j, am_up D 4 q m (sd_pn i) j = D (sd_pn i) j := fun i j => ed _ j (by unfold sd_pn; omega)
      have eF : vF (mT M) (vC (mT M)) ≤ vF (am_up (mT M) 4 q m) (vC (am_up (mT M) 4 q m)) := by
        rw [zvF (fun j => em 1 j (by omega)), zvC (em 0 2 (by omega))]
        exact Nat.le_refl _
      refine ⟨h'.G.c (em 0 1 (by omega)) (em 0 2 (by omega)) (em 0 8 (by omega)) (em 0 17 (by omega)) (fun j => em 1 j (by omega)), mGR_of h'.GR (zvR (em 0 8 (by omega))) (zvL (em 0 1 (by omega))) (fun j => em 7 j (by omega)) (fun j => em 8 j (by omega)), h'.O.eq (ed 0 0 (by omega)) (ed 0 4 (by omega)) (fun j => ed 12 j (by omega)) (fun j => ed 13 j (by omega)) (fun i => ⟨er i 0, er i 1⟩), h'.sg.eq (fun j => ed 1 j (by omega)), h'.bg.eq (ed 9 2 (by omega)), h'.S.eq4 (fun n j z => ed n j (by omega)) (fun n j z => em n j (by omega)) (fun x => ?_), h'.T.eq (fun x _ => ed 5 x (by omega)) (zvR (em 0 8 (by omega))) (fun r _ s _ => em 12 _ (by omega)) n3, h'.K.eq (ed 1 1 (by omega)) (fun x => ed 2 x (by omega)) (fun x => ed 6 x (by omega)) (em 0 17 (by omega)) (fun n j z => em n j (by omega)), h'.R.eq (ed 0 4 (by omega)) (fun i _ j _ => er i j) (em 0 8 (by omega)) (fun i _ n z1 z2 => em n i (by omega)), h'.P.eq (fun i _ j _ => ep i j) (zvR (em 0 8 (by omega))) (fun r _ s _ => em 12 _ (by omega)) n3, h'.Q.eq (fun n j z1 z2 => ed n j (by omega)) (fun j => em 5 j (by omega)), h'.B.eq (ed 9 2 (by omega)) (fun n j z => ed n j (by omega)) (em 0 17 (by omega)) eF (fun n j z => em n j (by omega)), (ed 0 6 (by omega)).trans (h'.m.trans (em 0 21 (by omega)).symm), h'.I.eq (zvR (em 0 8 (by omega))) eF (fun q _ => zmK (fun j => em 1 j (by omega)) (fun j => em 2 j (by omega))) (fun r _ => ⟨em 6 r (by omega), em 7 r (by omega), em 8 r (by omega), em 9 r (by omega), fun s _ => em 12 _ (by omega)⟩)⟩
      by_cases hx : x = q
      · dsimp only
        rw [hx, am_up_same, am_up_same]
      · dsimp only
        rw [am_up_at (fun z => hx z.2), am_up_at (fun z => hx z.2)]
        exact h'.S.2.2.2.2.2.2.2.2.1 x
theorem quota_eq {L A : Nat} {D M : am_D} {s g n : Int32} (h : Rel L A D M none) : (dQuota L D s g n).1 = (mQuota M s g n).1 ∧ Rel L A (dQuota L D s g n).2 (mQuota M s g n).2 none := by
  have h' := h.mT
  obtain ⟨n1, n2, n3, n4, n5, n6, n7, n8, n9⟩ := h'.n
  unfold dQuota mQuota
  rw [h.n.1]
  by_cases hz : ¬ dStr L s ∨ ¬ dAgn g ∨ n < 0 ∨ 150 < n
  · rw [if_pos hz, if_pos]
    · exact ⟨rfl, h'⟩
    · rw [dStr_i, dAgn_i] at hz
      rcases hz with (z | z) | (z | z) | z
      · exact Or.inl z
      · exact Or.inr (Or.inl z)
      · exact Or.inr (Or.inr (Or.inl z))
      · exact Or.inr (Or.inr (Or.inr (Or.inl z)))
      · exact Or.inr (Or.inr (Or.inr (Or.inr z)))
  · have hs : dStr L s := Classical.not_not.mp (fun z => hz (Or.inl z))
    have hg : dAgn g := Classical.not_not.mp (fun z => hz (Or.inr (Or.inl z)))
    have hz' : ¬ (s < 0 ∨ nI L ≤ s ∨ g < 0 ∨ 3 < g ∨ n < 0 ∨ 150 < n) := by
      intro z
      refine hz ?_
      rw [dStr_i, dAgn_i]
      rcases z with z | z | z | z | z
      · exact Or.inl (Or.inl z)
      · exact Or.inl (Or.inr z)
      · exact Or.inr (Or.inl (Or.inl z))
      · exact Or.inr (Or.inl (Or.inr z))
      · exact Or.inr (Or.inr z)
    rw [if_neg hz, if_neg hz']
    obtain ⟨s', hs', rfl, hs2⟩ := dStr_e hs n3
    obtain ⟨g', hg', rfl, hg2⟩ := dAgn_e hg
    rw [hs2, hg2]
    refine ⟨rfl, ?_⟩
    have ed : ∀ k j, k ≠ 14 + g' → am_up D (14 + g') s' n k j = D k j := fun k j z => am_up_at (fun y => z y.1)
    have em : ∀ k j, k ≠ 5 → am_up (mT M) 5 (4 * s' + g') n k j = mT M k j := fun k j z => am_up_at (fun y => z y.1)
    have er : ∀ i j, am_up D (14 + g') s' n (sd_rn i) j = D (sd_rn i) j := fun i j => ed _ j (by unfold sd_rn; omega)
    have ep : ∀ i j, am_up D (14 + g') s' n (sd_pn i) j = D (sd_pn i) j := fun i j => ed _ j (by unfold sd_pn; omega)
    have eF : vF (mT M) (vC (mT M)) ≤ vF (am_up (mT M) 5 (4 * s' + g') n) (vC (am_up (mT M) 5 (4 * s' + g') n)) := by
      rw [zvF (fun j => em 1 j (by omega)), zvC (em 0 2 (by omega))]
      exact Nat.le_refl _
    refine ⟨h'.G.c (em 0 1 (by omega)) (em 0 2 (by omega)) (em 0 8 (by omega)) (em 0 17 (by omega)) (fun j => em 1 j (by omega)), mGR_of h'.GR (zvR (em 0 8 (by omega))) (zvL (em 0 1 (by omega))) (fun j => em 7 j (by omega)) (fun j => em 8 j (by omega)), h'.O.eq (ed 0 0 (by omega)) (ed 0 4 (by omega)) (fun j => ed 12 j (by omega)) (fun j => ed 13 j (by omega)) (fun i => ⟨er i 0, er i 1⟩), h'.sg.eq (fun j => ed 1 j (by omega)), h'.bg.eq (ed 9 2 (by omega)), h'.S.eq (fun n j z => ed n j (by omega)) (fun n j z => em n j (by omega)), h'.T.eq (fun x _ => ed 5 x (by omega)) (zvR (em 0 8 (by omega))) (fun r _ s _ => em 12 _ (by omega)) n3, h'.K.eq (ed 1 1 (by omega)) (fun x => ed 2 x (by omega)) (fun x => ed 6 x (by omega)) (em 0 17 (by omega)) (fun n j z => em n j (by omega)), h'.R.eq (ed 0 4 (by omega)) (fun i _ j _ => er i j) (em 0 8 (by omega)) (fun i _ n z1 z2 => em n i (by omega)), h'.P.eq (fun i _ j _ => ep i j) (zvR (em 0 8 (by omega))) (fun r _ s _ => em 12 _ (by omega)) n3, fun k hk u hu => ?_, h'.B.eq (ed 9 2 (by omega)) (fun n j z => ed n j (by omega)) (em 0 17 (by omega)) eF (fun n j z => em n j (by omega)), (ed 0 6 (by omega)).trans (h'.m.trans (em 0 21 (by omega)).symm), h'.I.eq (zvR (em 0 8 (by omega))) eF (fun q _ => zmK (fun j => em 1 j (by omega)) (fun j => em 2 j (by omega))) (fun r _ => ⟨em 6 r (by omega), em 7 r (by omega), em 8 r (by omega), em 9 r (by omega), fun s _ => em 12 _ (by omega)⟩)⟩
    by_cases hx : k = g' ∧ u = s'
    · dsimp only
      rw [hx.1, hx.2, am_up_same, am_up_same]
    · dsimp only
      rw [am_up_at (fun z => hx ⟨by omega, z.2⟩), am_up_at (fun z => hx (by have := z.2; omega))]
      exact h'.Q k hk u hu
theorem mCo_u {M : am_D} {q c : Nat} (hG : mG M) (hc : c < vC M) (h1 : vF M c ≤ q) (h2 : q < vF M (c + 1)) : mCo M q = c := by
  have hq : q < vF M (vC M) := Nat.lt_of_lt_of_le h2 (hG.mono (by omega) (Nat.le_refl _))
  obtain ⟨z1, z2, z3, z4⟩ := hG.co hq
  rcases Nat.lt_trichotomy (mCo M q) c with h | h | h
  · have := hG.mono (show mCo M q + 1 ≤ c by omega) (by omega)
    omega
  · exact h
  · have := z4 c h
    omega
theorem dCl_01 {t : Int32} (h : dCl t) : t = 0 ∨ t = 1 := by
  obtain ⟨j, hj, e, -⟩ := pk_mu (L := 2) h.1 (Int32.not_le.mpr h.2) (by omega)
  rcases (show j = 0 ∨ j = 1 by omega) with rfl | rfl
  · exact Or.inl e
  · exact Or.inr e
theorem nI_subA {a b : Nat} (h : b ≤ a) : nI a - nI b = nI (a - b) := by
  have : nI a = nI (a - b) + nI b := by rw [nI_addA, Nat.sub_add_cancel h]
  rw [this, Int32.add_sub_cancel]
theorem coach_eq {L A : Nat} {D M : am_D} {t n : Int32} (h : Rel L A D M none) : (dCoach D t n).1 = (mCoach M t n).1 ∧ Rel L A (dCoach D t n).2 (mCoach M t n).2 none := by
  have h' := h.mT
  obtain ⟨n1, n2, n3, n4, n5, n6, n7, n8, n9⟩ := h.n
  have e17 : D 1 7 = nI (vC M) := by rw [h.sg.2.2.1, n8]
  have e11 : D 1 1 = nI (vF M (vC M)) := by rw [h.sg.1, n5]
  have m02 : M 0 2 = nI (vC M) := h.G.2.2.2.1
  have m1 : M 1 (vC M) = nI (vF M (vC M)) := h.G.Fn
  unfold dCoach mCoach
  rw [e17, e11, m02, m1]
  have hc8 : (nI (vC M) < 8 ↔ vC M < 8) := nI_lti (b := 8) (by omega) (by omega)
  have hc8' : (nI (vC M) = 8 ↔ vC M = 8) := nI_inji (b := 8) (by omega) (by omega)
  rw [hc8]
  by_cases h1 : t < 0 ∨ 1 < t
  · rw [if_pos (Or.inl (dCl_i.mpr h1)), if_pos (h1.elim Or.inl (fun z => Or.inr (Or.inl z)))]
    exact ⟨rfl, h'⟩
  · have ht : dCl t := Classical.not_not.mp (fun z => h1 (dCl_i.mp z))
    by_cases h2 : n < 1 ∨ 20 < n
    · rw [if_pos (h2.elim (fun z => Or.inr (Or.inl z)) (fun z => Or.inr (Or.inr (Or.inl z)))), if_pos (h2.elim (fun z => Or.inr (Or.inr (Or.inl z))) (fun z => Or.inr (Or.inr (Or.inr (Or.inl z)))))]
      exact ⟨rfl, h'⟩
    · obtain ⟨z, hz, rfl, -, hz2, -⟩ := pk_mu (x := n) (L := 21) (fun y => h2 (Or.inl (Int32.lt_trans y (by decide)))) (fun y => h2 (Or.inr (Int32.lt_of_lt_of_le (by decide) y))) (by omega)
      have hz1 : 1 ≤ z := by
        rcases Nat.eq_zero_or_pos z with rfl | y
        · exact absurd (Or.inl (by decide)) h2
        · exact y
      rw [nI_addA]
      have e80 : (nI (vF M (vC M) + z) ≤ 80 ↔ vF M (vC M) + z ≤ 80) := nI_lei (b := 80) (by omega) (by omega)
      have e80' : (80 < nI (vF M (vC M) + z) ↔ 80 < vF M (vC M) + z) := nI_lti (a := 80) (by omega) (by omega)
      rw [e80, hz2]
      by_cases h3 : vC M < 8 ∧ vF M (vC M) + z ≤ 80
      · rw [if_neg (fun y => y.elim (fun y => y ht) (fun y => y.elim (fun y => h2 (Or.inl y)) (fun y => y.elim (fun y => h2 (Or.inr y)) (fun y => y h3)))), if_neg (fun y => by
          rcases y with y | y | y | y | y | y
          · exact h1 (Or.inl y)
          · exact h1 (Or.inr y)
          · exact h2 (Or.inl y)
          · exact h2 (Or.inr y)
          · have := hc8'.mp y
            omega
          · have := e80'.mp y
            omega)]
        refine ⟨by rw [n8], ?_⟩
        obtain ⟨hc, hf⟩ := h3
        show Rel L A (dAdd D t z) (am_up (am_up (am_up (mT M) 2 (vC M) t) 1 (vC M + 1) (nI (vF M (vC M) + z))) 0 2 (nI (vC M + 1))) none
        have hm : ∀ k j, k ≠ 0 → mT M k j = M k j := fun k j y => mT_ne (fun w => y w.1)
        have ed : ∀ k j, k ≠ 1 → k ≠ 2 → k ≠ 3 → k ≠ 7 → k ≠ 8 → dAdd D t z k j = D k j := fun k j y1 y2 y3 y7 y8 => by
          unfold dAdd
          rw [am_up_at (fun w => y8 w.1), am_up_at (fun w => y1 w.1), am_up_at (fun w => y7 w.1)]
          unfold dAddI
          rw [if_neg (fun w => y1 w.1), if_neg (fun w => y2 w.1), if_neg (fun w => y3 w.1)]
        have d10 : ∀ j, j ≠ 1 → j ≠ 7 → dAdd D t z 1 j = D 1 j := fun j y1 y7 => by
          unfold dAdd
          rw [am_up_at (fun w => absurd w.1 (by decide)), am_up_at (fun w => y7 w.2), am_up_at (fun w => absurd w.1 (by decide))]
          unfold dAddI
          rw [if_neg (fun w => y1 w.2), if_neg (fun w => absurd w.1 (by decide)), if_neg (fun w => absurd w.1 (by decide))]
        have d11 : dAdd D t z 1 1 = nI (dC D + z) := by
          unfold dAdd
          rw [am_up_at (fun w => absurd w.1 (by decide)), am_up_at (fun w => absurd w.2 (by decide)), am_up_at (fun w => absurd w.1 (by decide))]
          unfold dAddI
          rw [if_pos ⟨rfl, rfl⟩]
        have d17 : dAdd D t z 1 7 = nI (vC M + 1) := by
          unfold dAdd
          rw [am_up_at (fun w => absurd w.1 (by decide)), am_up_same, n8]
        have d2 : ∀ j, dAdd D t z 2 j = if dC D ≤ j ∧ j < dC D + z then t else D 2 j := fun j => by
          unfold dAdd
          rw [am_up_at (fun w => absurd w.1 (by decide)), am_up_at (fun w => absurd w.1 (by decide)), am_up_at (fun w => absurd w.1 (by decide))]
          unfold dAddI
          rw [if_neg (fun w => absurd w.1 (by decide))]
          by_cases y : dC D ≤ j ∧ j < dC D + z
          · rw [if_pos ⟨rfl, y⟩, if_pos y]
          · rw [if_neg (fun w => y w.2), if_neg y, if_neg (fun w => absurd w.1 (by decide))]
        have d3 : ∀ j, dAdd D t z 3 j = if dC D ≤ j ∧ j < dC D + z then 100 * nI (vC M) + nI (j - dC D) else D 3 j := fun j => by
          unfold dAdd
          rw [am_up_at (fun w => absurd w.1 (by decide)), am_up_at (fun w => absurd w.1 (by decide)), am_up_at (fun w => absurd w.1 (by decide))]
          unfold dAddI
          rw [if_neg (fun w => absurd w.1 (by decide)), if_neg (fun w => absurd w.1 (by decide)), n8]
          by_cases y : dC D ≤ j ∧ j < dC D + z
          · rw [if_pos ⟨rfl, y⟩, if_pos y]
          · rw [if_neg (fun w => y w.2), if_neg y]
        have d7 : ∀ j, dAdd D t z 7 j = if j = vC M then 1 else D 7 j := fun j => by
          unfold dAdd
          rw [am_up_at (fun w => absurd w.1 (by decide)), am_up_at (fun w => absurd w.1 (by decide)), n8]
          by_cases y : j = vC M
          · rw [y, am_up_same, if_pos rfl]
          · rw [am_up_at (fun w => y w.2), if_neg y]
            unfold dAddI
            rw [if_neg (fun w => absurd w.1 (by decide)), if_neg (fun w => absurd w.1 (by decide)), if_neg (fun w => absurd w.1 (by decide))]
        have d8 : ∀ j, dAdd D t z 8 j = if j = vC M + 1 then nI (dC D + z) else D 8 j := fun j => by
          unfold dAdd
          rw [n8]
          by_cases y : j = vC M + 1
          · rw [y, am_up_same, if_pos rfl]
          · rw [am_up_at (fun w => y w.2), if_neg y, am_up_at (fun w => absurd w.1 (by decide)), am_up_at (fun w => absurd w.1 (by decide))]
            unfold dAddI
            rw [if_neg (fun w => absurd w.1 (by decide)), if_neg (fun w => absurd w.1 (by decide)), if_neg (fun w => absurd w.1 (by decide))]
        have em : ∀ k j, ¬ (k = 0 ∧ (j = 0 ∨ j = 2)) → k ≠ 1 → k ≠ 2 → am_up (am_up (am_up (mT M) 2 (vC M) t) 1 (vC M + 1) (nI (vF M (vC M) + z))) 0 2 (nI (vC M + 1)) k j = M k j := fun k j y0 y1 y2 => by
          rw [am_up_at (fun w => y0 ⟨w.1, Or.inr w.2⟩), am_up_at (fun w => y1 w.1), am_up_at (fun w => y2 w.1), mT_ne (fun w => y0 ⟨w.1, Or.inl w.2⟩)]
        have em02 : am_up (am_up (am_up (mT M) 2 (vC M) t) 1 (vC M + 1) (nI (vF M (vC M) + z))) 0 2 (nI (vC M + 1)) 0 2 = nI (vC M + 1) := am_up_same
        have em1 : ∀ j, am_up (am_up (am_up (mT M) 2 (vC M) t) 1 (vC M + 1) (nI (vF M (vC M) + z))) 0 2 (nI (vC M + 1)) 1 j = if j = vC M + 1 then nI (vF M (vC M) + z) else M 1 j := fun j => by
          rw [am_up_at (fun w => absurd w.1 (by decide))]
          by_cases y : j = vC M + 1
          · rw [y, am_up_same, if_pos rfl]
          · rw [am_up_at (fun w => y w.2), if_neg y, am_up_at (fun w => absurd w.1 (by decide)), hm 1 j (by omega)]
        have em2 : ∀ j, am_up (am_up (am_up (mT M) 2 (vC M) t) 1 (vC M + 1) (nI (vF M (vC M) + z))) 0 2 (nI (vC M + 1)) 2 j = if j = vC M then t else M 2 j := fun j => by
          rw [am_up_at (fun w => absurd w.1 (by decide)), am_up_at (fun w => absurd w.1 (by decide))]
          by_cases y : j = vC M
          · rw [y, am_up_same, if_pos rfl]
          · rw [am_up_at (fun w => y w.2), if_neg y, hm 2 j (by omega)]
        generalize hD' : dAdd D t z = D' at *
        generalize hM' : am_up (am_up (am_up (mT M) 2 (vC M) t) 1 (vC M + 1) (nI (vF M (vC M) + z))) 0 2 (nI (vC M + 1)) = M' at *
        have eC : vC M' = vC M + 1 := by
          unfold vC
          rw [em02]
          exact nI_clamp (by unfold vC at hc; omega)
        have eF : ∀ c, vF M' c = if c = vC M + 1 then vF M (vC M) + z else vF M c := fun c => by
          unfold vF
          rw [em1]
          by_cases y : c = vC M + 1
          · rw [if_pos y, if_pos y]
            exact nI_clamp (by unfold vF at hf; omega)
          · rw [if_neg y, if_neg y]
        have eFC : vF M' (vC M') = vF M (vC M) + z := by rw [eC, eF, if_pos rfl]
        have eL : vL M' = vL M := zvL (em 0 1 (by omega) (by omega) (by omega))
        have eR : vR M' = vR M := zvR (em 0 8 (by omega) (by omega) (by omega))
        have eB : vB M' = vB M := zvB (em 0 17 (by omega) (by omega) (by omega))
        have edC : dC D' = dC D + z := by
          unfold dC
          rw [d11]
          exact nI_clamp (by unfold dC at *; omega)
        have edK : dK D' = vC M + 1 := by
          unfold dK
          rw [d17]
          exact nI_clamp (by omega)
        obtain ⟨g1, g2, g3, g4, g5, g6, g7, g8, g9, g10, g11, g12, g13⟩ := h.G
        have hG' : mG M' := by
          refine ⟨?_, by omega, by omega, ?_, by omega, ?_, by omega, ?_, by omega, fun c hcc => ?_, ?_, fun c hcc => ?_, by omega⟩
          · rw [eL, em 0 1 (by omega) (by omega) (by omega)]
            exact g1
          · rw [eC, em02]
          · rw [eR, em 0 8 (by omega) (by omega) (by omega)]
            exact g6
          · rw [eB, em 0 17 (by omega) (by omega) (by omega)]
            exact g8
          · rw [em1, eF]
            by_cases y : c = vC M + 1
            · rw [if_pos y, if_pos y]
            · rw [if_neg y, if_neg y]
              exact g10 c (by omega)
          · rw [eF, if_neg (by omega)]
            exact g11
          · rw [eF, eF, if_neg (by omega)]
            by_cases y : c + 1 = vC M + 1
            · rw [if_pos y, show c = vC M by omega]
              omega
            · rw [if_neg y]
              exact g12 c (by omega)
        have co1 : ∀ q, q < dC D → mCo M' q = mCo M q := fun q hq => by
          obtain ⟨z1, z2, z3, z4⟩ := h.G.co (q := q) (by omega)
          refine mCo_u hG' (by omega) ?_ ?_
          · rw [eF, if_neg (by omega)]
            exact z1
          · rw [eF, if_neg (by omega)]
            exact z2
        have co2 : ∀ q, dC D ≤ q → q < dC D + z → mCo M' q = vC M := fun q q1 q2 => by
          refine mCo_u hG' (by omega) ?_ ?_
          · rw [eF, if_neg (by omega)]
            omega
          · rw [eF, if_pos rfl]
            omega
        have er : ∀ i j, D' (sd_rn i) j = D (sd_rn i) j := fun i j => ed _ j (by unfold sd_rn; omega) (by unfold sd_rn; omega) (by unfold sd_rn; omega) (by unfold sd_rn; omega) (by unfold sd_rn; omega)
        have ep : ∀ i j, D' (sd_pn i) j = D (sd_pn i) j := fun i j => ed _ j (by unfold sd_pn; omega) (by unfold sd_pn; omega) (by unfold sd_pn; omega) (by unfold sd_pn; omega) (by unfold sd_pn; omega)
        obtain ⟨s1, s2, s3, s4, s5, s6, s7, s8, s9, s10⟩ := h.S
        have hS' : rS L D' M' := by
          refine ⟨by omega, by omega, fun c hcc => ?_, fun c hcc => ?_, fun c hcc => ?_, by omega, fun q hq => ?_, fun q hq => ?_, fun q => ?_, fun c hcc => ?_⟩
          · rw [d8, em1, n5]
            by_cases y : c = vC M + 1
            · rw [if_pos y, if_pos y]
            · rw [if_neg y, if_neg y]
              exact s3 c (by omega)
          · rw [d7, em 3 c (by omega) (by omega) (by omega)]
            by_cases y : c = vC M
            · rw [if_pos y, s5 c (by omega)]
              exact ⟨fun w => absurd w (by decide), fun w => absurd rfl w⟩
            · rw [if_neg y]
              exact s4 c (by omega)
          · rw [em 3 c (by omega) (by omega) (by omega)]
            exact s5 c (by omega)
          · rw [d2, em 3 _ (by omega) (by omega) (by omega), em2]
            by_cases y : q < dC D
            · rw [if_neg (by omega), co1 q y, if_neg (show ¬ mCo M q = vC M by have := (h.G.co (q := q) (by omega)).2.2.1; omega)]
              exact s7 q y
            · rw [if_pos (by omega), co2 q (by omega) (by omega), s5 _ (Nat.le_refl _), if_pos rfl, if_pos rfl]
          · rw [d3]
            unfold mTold
            rw [if_neg (nI_pos (by omega)), nI_clamp (n := q) (by omega), em1]
            by_cases y : q < dC D
            · rw [if_neg (by omega), co1 q y, if_neg (show ¬ mCo M q = vC M + 1 by have := (h.G.co (q := q) (by omega)).2.2.1; omega), s8 q y]
              unfold mTold
              rw [if_neg (nI_pos (by omega)), nI_clamp (n := q) (by omega)]
            · rw [if_pos (by omega), co2 q (by omega) (by omega), if_neg (by omega), m1, ← n5, Int32.sub_eq_add_neg, Int32.add_assoc, ← Int32.sub_eq_add_neg, nI_subA (by omega)]
          · rw [ed 4 q (by omega) (by omega) (by omega) (by omega) (by omega), em 4 q (by omega) (by omega) (by omega)]
            exact s9 q
          · rw [em2]
            by_cases y : c = vC M
            · rw [if_pos y]
              exact dCl_01 ht
            · rw [if_neg y]
              exact s10 c (by omega)
        have hsg : sG L D' := ⟨by rw [edC]; exact d11, by omega, by rw [edK]; exact d17, by omega, (d10 0 (by omega) (by omega)).trans h.sg.2.2.2.2.1, n3⟩
        have hK' : rK L D' M' := fun q hq hh s hs => by
          rw [ed 6 q (by omega) (by omega) (by omega) (by omega) (by omega), eB, h.K q hq ?_ s hs]
          · unfold mBk
            constructor <;> rintro ⟨b, z1, z2⟩ <;> refine ⟨b, z1, ?_⟩
            · rw [em 14 b (by omega) (by omega) (by omega), em 15 b (by omega) (by omega) (by omega), em 16 b (by omega) (by omega) (by omega)]
              exact z2
            · rw [em 14 b (by omega) (by omega) (by omega), em 15 b (by omega) (by omega) (by omega), em 16 b (by omega) (by omega) (by omega)] at z2
              exact z2
          · by_cases y : dC D ≤ q
            · exact Or.inl y
            · refine Or.inr ?_
              rw [edC, d2, if_neg (by omega)] at hh
              exact hh.resolve_left (by omega)
        refine ⟨hG', mGR_of h.GR eR eL (fun j => em 7 j (by omega) (by omega) (by omega)) (fun j => em 8 j (by omega) (by omega) (by omega)), h.O.eq (ed 0 0 (by omega) (by omega) (by omega) (by omega) (by omega)) (ed 0 4 (by omega) (by omega) (by omega) (by omega) (by omega)) (fun j => ed 12 j (by omega) (by omega) (by omega) (by omega) (by omega)) (fun j => ed 13 j (by omega) (by omega) (by omega) (by omega) (by omega)) (fun i => ⟨er i 0, er i 1⟩), hsg, h.bg.eq (ed 9 2 (by omega) (by omega) (by omega) (by omega) (by omega)), hS', h.T.eq (fun x _ => ed 5 x (by omega) (by omega) (by omega) (by omega) (by omega)) eR (fun r _ s _ => em 12 _ (by omega) (by omega) (by omega)) n3, hK', h.R.eq (ed 0 4 (by omega) (by omega) (by omega) (by omega) (by omega)) (fun i _ j _ => er i j) (em 0 8 (by omega) (by omega) (by omega)) (fun i _ n z1 z2 => em n i (by omega) (by omega) (by omega)), h.P.eq (fun i _ j _ => ep i j) eR (fun r _ s _ => em 12 _ (by omega) (by omega) (by omega)) n3, h.Q.eq (fun n j z1 z2 => ed n j (by omega) (by omega) (by omega) (by omega) (by omega)) (fun j => em 5 j (by omega) (by omega) (by omega)), h.B.eq (ed 9 2 (by omega) (by omega) (by omega) (by omega) (by omega)) (fun n j z => ed n j (by omega) (by omega) (by omega) (by omega) (by omega)) (em 0 17 (by omega) (by omega) (by omega)) (by omega) (fun n j z => em n j (by omega) (by omega) (by omega)), (ed 0 6 (by omega) (by omega) (by omega) (by omega) (by omega)).trans (h.m.trans (em 0 21 (by omega) (by omega) (by omega)).symm), h.I.eq eR (by omega) (fun q hq => by unfold mK; rw [co1 q (by omega), em2, if_neg (by have := (h.G.co (q := q) hq).2.2.1; omega)]) (fun r _ => ⟨em 6 r (by omega) (by omega) (by omega), em 7 r (by omega) (by omega) (by omega), em 8 r (by omega) (by omega) (by omega), em 9 r (by omega) (by omega) (by omega), fun s _ => em 12 _ (by omega) (by omega) (by omega)⟩)⟩
      · rw [if_pos (Or.inr (Or.inr (Or.inr h3))), if_pos (by
          by_cases y : vC M = 8
          · exact Or.inr (Or.inr (Or.inr (Or.inr (Or.inl (hc8'.mpr y)))))
          · exact Or.inr (Or.inr (Or.inr (Or.inr (Or.inr (e80'.mpr (by omega))))))) ]
        exact ⟨rfl, h'⟩
