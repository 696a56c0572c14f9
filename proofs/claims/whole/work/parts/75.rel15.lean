/-! ===== desk and reference: shorten ===== -/
theorem short_eq {L A : Nat} {D M : am_D} {r a b : Int32} (h : Rel L A D M none) : (dShort D r a b).1 = (mShort M r a b).1 ∧ Rel L A (dShort D r a b).2 (mShort M r a b).2 none := by
  have h' := h.mT
  obtain ⟨n1, n2, n3, n4, n5, n6, n7, n8, n9⟩ := h'.n
  have hm : ∀ n j, n ≠ 0 → mT M n j = M n j := fun n j z => mT_ne (fun y => z y.1)
  have hl := liv_eq (r := r) h'.R h'.I.st h'.O.2.2.2.1 h'.G.2.2.2.2.2.1 n4
  unfold dShort mShort
  rw [hl]
  by_cases h1 : mLiv (mT M) r
  · obtain ⟨i, rfl, hi, hi2, hi3⟩ := mLiv_e h'.G h1
    obtain ⟨f2, f3, f4, f5, f6, f7⟩ := h'.R.2 i hi
    obtain ⟨w1, w2, w3, w4, w5, w6, w7⟩ := h'.V.w hi
    rw [hi2, w4, w5, f2, f3, f6, hm 6 i (by omega), hm 7 i (by omega), hm 8 i (by omega)]
    by_cases h2 : M 6 i = 3 ∨ b ≤ a ∨ a < M 7 i ∨ M 8 i < b
    · rw [if_pos (Or.inr (by rcases h2 with z | z | z | z; exact Or.inl z; exact Or.inr (Or.inr (Or.inr z)); exact Or.inr (Or.inl z); exact Or.inr (Or.inr (Or.inl z)))), if_pos (Or.inr h2)]
      exact ⟨rfl, h'⟩
    · have hn1 : ¬ (¬ mLiv (mT M) (nI i) ∨ M 6 i = 3 ∨ a < M 7 i ∨ M 8 i < b ∨ b ≤ a) := by
        rintro (z | z | z | z | z)
        · exact z h1
        · exact h2 (Or.inl z)
        · exact h2 (Or.inr (Or.inr (Or.inl z)))
        · exact h2 (Or.inr (Or.inr (Or.inr z)))
        · exact h2 (Or.inr (Or.inl z))
      have hn2 : ¬ (¬ mLiv (mT M) (nI i) ∨ M 6 i = 3 ∨ b ≤ a ∨ a < M 7 i ∨ M 8 i < b) := fun z => z.elim (fun y => y h1) h2
      rw [if_neg hn1, if_neg hn2]
      refine ⟨rfl, ?_⟩
      have a1 : M 7 i = nI (va (mT M) i) := by rw [← hm 7 i (by omega), ← f2, w1]
      have a2 : M 8 i = nI (vb (mT M) i) := by rw [← hm 8 i (by omega), ← f3, w2]
      have hab : ¬ b ≤ a := fun z => h2 (Or.inr (Or.inl z))
      have hva : ¬ a < nI (va (mT M) i) := fun z => h2 (Or.inr (Or.inr (Or.inl (by rw [a1]; exact z))))
      have hvb : ¬ nI (vb (mT M) i) < b := fun z => h2 (Or.inr (Or.inr (Or.inr (by rw [a2]; exact z))))
      have hva' : nI (va (mT M) i) ≤ a := Int32.not_lt.mp hva
      have ha0 : ¬ a < 0 := fun z => nI_pos (n := va (mT M) i) (by omega) (Int32.lt_of_le_of_lt hva' z)
      obtain ⟨x, y, rfl, rfl, hxy, hyL, ex, ey⟩ := way_e (L := L) (a := a) (b := b) ⟨ha0, Int32.not_le.mp hab, Int32.le_trans (Int32.not_lt.mp hvb) ((nI_lei (by omega) (by omega)).mpr (by omega))⟩ n3
      have hx : va (mT M) i ≤ x := by
        rw [nI_lti (by omega) (by omega)] at hva
        omega
      have hy : y ≤ vb (mT M) i := by
        rw [nI_lti (by omega) (by omega)] at hvb
        omega
      rw [ex, ey]
      show Rel L A (am_up (am_up (dLv (dLv D i (va (mT M) i) x) i y (vb (mT M) i)) (sd_rn i) 2 (nI x)) (sd_rn i) 3 (nI y)) (mPut (am_up (am_up (mT M) 7 i (nI x)) 8 i (nI y)) i 29 (mCutG M i (nI x) (nI y))) none
      have hps : ∀ u, u < L → D (sd_pn i) u = -1 ∨ ∃ q, q < 80 ∧ D (sd_pn i) u = nI q := h'.ok.2.2.1 i (by omega)
      have ed : ∀ n j, n ≠ 5 → n ≠ sd_pn i → ¬ (n = sd_rn i ∧ (j = 2 ∨ j = 3)) → am_up (am_up (dLv (dLv D i (va (mT M) i) x) i y (vb (mT M) i)) (sd_rn i) 2 (nI x)) (sd_rn i) 3 (nI y) n j = D n j := fun n j z1 z2 z3 => by
        rw [am_up_at (fun w => z3 ⟨w.1, Or.inr w.2⟩), am_up_at (fun w => z3 ⟨w.1, Or.inl w.2⟩), dLv_ne z1 z2, dLv_ne z1 z2]
      have d2 : am_up (am_up (dLv (dLv D i (va (mT M) i) x) i y (vb (mT M) i)) (sd_rn i) 2 (nI x)) (sd_rn i) 3 (nI y) (sd_rn i) 2 = nI x := by
        rw [am_up_at (fun w => absurd w.2 (by decide)), am_up_same]
      have d3 : am_up (am_up (dLv (dLv D i (va (mT M) i) x) i y (vb (mT M) i)) (sd_rn i) 2 (nI x)) (sd_rn i) 3 (nI y) (sd_rn i) 3 = nI y := am_up_same
      have dp : ∀ k s, am_up (am_up (dLv (dLv D i (va (mT M) i) x) i y (vb (mT M) i)) (sd_rn i) 2 (nI x)) (sd_rn i) 3 (nI y) (sd_pn k) s = if k = i ∧ y ≤ s ∧ s < vb (mT M) i then -1 else if k = i ∧ va (mT M) i ≤ s ∧ s < x then -1 else D (sd_pn k) s := fun k s => by
        rw [am_up_at (fun w => sd_ne i k w.1.symm), am_up_at (fun w => sd_ne i k w.1.symm), dLv_pn, dLv_pn]
      have d5 : ∀ q, q < 80 → ∀ s, s < L → (bt (am_up (am_up (dLv (dLv D i (va (mT M) i) x) i y (vb (mT M) i)) (sd_rn i) 2 (nI x)) (sd_rn i) 3 (nI y) 5 q) s ↔ bt (D 5 q) s ∧ ¬ ((va (mT M) i ≤ s ∧ s < x ∨ y ≤ s ∧ s < vb (mT M) i) ∧ mT M 12 (29 * i + s) = nI q)) := fun q hq s hs => by
        rw [am_up_at (fun w => by have := w.1; unfold sd_rn at this; omega), am_up_at (fun w => by have := w.1; unfold sd_rn at this; omega), dLv_bt (fun u u1 u2 => by rw [dLv_pn, if_neg (fun w => by omega)]; exact hps u (by omega)) (by omega) (by omega) hq (by omega), dLv_bt (fun u u1 u2 => hps u (by omega)) (by omega) (by omega) hq (by omega), dLv_pn, h'.P i hi s hs]
        constructor
        · rintro ⟨⟨z1, z2⟩, z3⟩
          refine ⟨z1, ?_⟩
          rintro ⟨z4 | z4, z5⟩
          · exact z2 ⟨z4.1, z4.2, z5⟩
          · exact z3 ⟨z4.1, z4.2, by rw [if_neg (fun w => by omega)]; exact z5⟩
        · rintro ⟨z1, z2⟩
          refine ⟨⟨z1, fun z => z2 ⟨Or.inl ⟨z.1, z.2.1⟩, z.2.2⟩⟩, fun z => z2 ⟨Or.inr ⟨z.1, z.2.1⟩, ?_⟩⟩
          have := z.2.2
          rw [if_neg (fun w => by omega)] at this
          exact this
      have em : ∀ n j, n ≠ 12 → ¬ ((n = 7 ∨ n = 8) ∧ j = i) → mPut (am_up (am_up (mT M) 7 i (nI x)) 8 i (nI y)) i 29 (mCutG M i (nI x) (nI y)) n j = mT M n j := fun n j z1 z2 => by
        rw [mPut_ne z1, am_up_at (fun w => z2 ⟨Or.inr w.1, w.2⟩), am_up_at (fun w => z2 ⟨Or.inl w.1, w.2⟩)]
      have m7 : mPut (am_up (am_up (mT M) 7 i (nI x)) 8 i (nI y)) i 29 (mCutG M i (nI x) (nI y)) 7 i = nI x := by
        rw [mPut_ne (by omega), am_up_at (fun w => absurd w.1 (by decide)), am_up_same]
      have m8 : mPut (am_up (am_up (mT M) 7 i (nI x)) 8 i (nI y)) i 29 (mCutG M i (nI x) (nI y)) 8 i = nI y := by
        rw [mPut_ne (by omega), am_up_same]
      have m12 : ∀ k s, s < 29 → mPut (am_up (am_up (mT M) 7 i (nI x)) 8 i (nI y)) i 29 (mCutG M i (nI x) (nI y)) 12 (29 * k + s) = if k = i then (if x ≤ s ∧ s < y then mT M 12 (29 * i + s) else -1) else mT M 12 (29 * k + s) := fun k s hs => by
        rw [mPut_row hs, am_up_at (fun w => absurd w.1 (by decide)), am_up_at (fun w => absurd w.1 (by decide))]
        by_cases hk : k = i
        · rw [if_pos hk, if_pos hk]
          unfold mCutG
          by_cases hz : x ≤ s ∧ s < y
          · rw [if_pos hz, if_neg, hm 12 _ (by omega)]
            rw [nI_lti (by omega) (by omega), nI_lei (by omega) (by omega)]
            omega
          · rw [if_neg hz, if_pos]
            rw [nI_lti (by omega) (by omega), nI_lei (by omega) (by omega)]
            omega
        · rw [if_neg hk, if_neg hk]
      generalize am_up (am_up (dLv (dLv D i (va (mT M) i) x) i y (vb (mT M) i)) (sd_rn i) 2 (nI x)) (sd_rn i) 3 (nI y) = D' at *
      generalize mPut (am_up (am_up (mT M) 7 i (nI x)) 8 i (nI y)) i 29 (mCutG M i (nI x) (nI y)) = M' at *
      have es : ∀ n j, n ≤ 20 → n ≠ 5 → D' n j = D n j := fun n j z z5 => ed n j z5 (by unfold sd_pn; omega) (fun w => by have := w.1; unfold sd_rn at this; omega)
      have er : ∀ k j, ¬ (k = i ∧ (j = 2 ∨ j = 3)) → D' (sd_rn k) j = D (sd_rn k) j := fun k j z => ed _ j (by unfold sd_rn; omega) (sd_ne k i) (fun w => z ⟨by have := w.1; unfold sd_rn at this; omega, w.2⟩)
      have eR : vR M' = vR (mT M) := zvR (em 0 8 (by omega) (by omega))
      have eL : vL M' = vL (mT M) := zvL (em 0 1 (by omega) (by omega))
      have eF : vF (mT M) (vC (mT M)) ≤ vF M' (vC M') := by
        rw [zvF (fun j => em 1 j (by omega) (by omega)), zvC (em 0 2 (by omega) (by omega))]
        exact Nat.le_refl _
      have va' : va M' i = x := by
        unfold va
        rw [m7]
        exact nI_clamp (by omega)
      have vb' : vb M' i = y := by
        unfold vb
        rw [m8]
        exact nI_clamp (by omega)
      have mi : ∀ s, s < 29 → M' 12 (29 * i + s) = if x ≤ s ∧ s < y then mT M 12 (29 * i + s) else -1 := fun s hs => by rw [m12 i s hs, if_pos rfl]
      have mo : ∀ k, k ≠ i → ∀ s, s < 29 → M' 12 (29 * k + s) = mT M 12 (29 * k + s) := fun k hk s hs => by rw [m12 k s hs, if_neg hk]
      have hGR' : mGR M' := fun k hk => by
        rw [eR] at hk
        by_cases he : k = i
        · rw [he, m7, m8, va', vb', eL]
          exact ⟨rfl, rfl, hxy, by omega⟩
        · rw [em 7 k (by omega) (by omega), em 8 k (by omega) (by omega), zva (em 7 k (by omega) (by omega)), zvb (em 8 k (by omega) (by omega)), eL]
          exact h'.GR k hk
      refine h'.ride (h'.G.c (em 0 1 (by omega) (by omega)) (em 0 2 (by omega) (by omega)) (em 0 8 (by omega) (by omega)) (em 0 17 (by omega) (by omega)) (fun j => em 1 j (by omega) (by omega))) hGR' (h'.O.eq (es 0 0 (by omega) (by omega)) (es 0 4 (by omega) (by omega)) (fun j => es 12 j (by omega) (by omega)) (fun j => es 13 j (by omega) (by omega)) (fun k => ⟨er k 0 (by omega), er k 1 (by omega)⟩)) ?_ ?_ ?_ ((es 0 6 (by omega) (by omega)).trans (h'.m.trans (em 0 21 (by omega) (by omega)).symm)) ?_ (fun n j _ z z5 _ => es n j (by omega) z5) (fun n j z => em n j (by omega) (by omega))
      · refine rT_new (r := i) h'.T h'.I.u n3 (by omega) (fun k _ => by rw [eR]) (fun k _ hn s hs => mo k hn s hs) (fun q hq s hs => ?_)
        rw [d5 q hq s hs, mi s (by omega)]
        constructor
        · rintro ⟨z1, z2⟩
          by_cases hr : mT M 12 (29 * i + s) = nI q
          · right
            rcases h'.I.w i hi s (by omega) with e | ⟨e1, e2, -⟩
            · rw [e] at hr
              exact absurd hr.symm (nI_m1 (by omega))
            · rw [if_pos (by
                refine ⟨?_, ?_⟩
                · rcases Nat.lt_or_ge s x with w | w
                  · exact absurd ⟨Or.inl ⟨e1, w⟩, hr⟩ z2
                  · exact w
                · rcases Nat.lt_or_ge s y with w | w
                  · exact w
                  · exact absurd ⟨Or.inr ⟨w, e2⟩, hr⟩ z2)]
              exact hr
          · exact Or.inl ⟨z1, fun w => hr w.2⟩
        · rintro (⟨z1, z2⟩ | z)
          · exact ⟨z1, fun w => z2 ⟨hi, w.2⟩⟩
          · by_cases hz : x ≤ s ∧ s < y
            · rw [if_pos hz] at z
              exact ⟨(h'.T q hq s hs).mpr ⟨i, hi, z⟩, fun w => by omega⟩
            · rw [if_neg hz] at z
              exact absurd z.symm (nI_m1 (by omega))
      · refine rR_new (r := i) h'.R ?_ (fun k hk _ => by rw [← eR]; exact hk) (fun k hk hn => ⟨fun j => er k j (fun w => hn w.1), fun n _ _ => em n k (by omega) (fun w => hn w.2)⟩) ⟨by rw [d2, m7], by rw [d3, m8], ?_, ?_, ?_, ?_⟩
        · rw [eR, ← h'.R.1]
          unfold dR
          rw [es 0 4 (by omega) (by omega)]
        · rw [er i 4 (by omega), em 9 i (by omega) (by omega)]
          exact f4
        · rw [er i 5 (by omega), em 10 i (by omega) (by omega)]
          exact f5
        · rw [er i 6 (by omega), em 6 i (by omega) (by omega)]
          exact f6
        · rw [er i 7 (by omega), em 11 i (by omega) (by omega)]
          exact f7
      · refine rP_new (r := i) h'.P n3 (fun k hk _ => by rw [← eR]; exact hk) (fun k hk hn => ⟨fun s _ => by rw [dp, if_neg (fun w => hn w.1), if_neg (fun w => hn w.1)], fun s hs => mo k hn s hs⟩) (fun s hs => ?_)
        rw [dp, mi s (by omega)]
        by_cases z1 : y ≤ s ∧ s < vb (mT M) i
        · rw [if_pos ⟨rfl, z1⟩, if_neg (by omega)]
        · rw [if_neg (fun w => z1 w.2)]
          by_cases z2 : va (mT M) i ≤ s ∧ s < x
          · rw [if_pos ⟨rfl, z2⟩, if_neg (by omega)]
          · rw [if_neg (fun w => z2 w.2), h'.P i hi s hs]
            by_cases z3 : x ≤ s ∧ s < y
            · rw [if_pos z3]
            · rw [if_neg z3]
              exact (h'.I.w i hi s (by omega)).resolve_right (fun w => by have := w.1; have := w.2.1; omega)
      · refine rI_new (r := i) h'.I (fun k hk _ => by rw [← eR]; exact hk) eF (fun q _ => zmK (fun j => em 1 j (by omega) (by omega)) (fun j => em 2 j (by omega) (by omega))) (fun k hk hn => ⟨em 6 k (by omega) (by omega), em 7 k (by omega) (by omega), em 8 k (by omega) (by omega), em 9 k (by omega) (by omega), fun s hs => mo k hn s hs⟩) (by rw [em 9 i (by omega) (by omega)]; exact h'.I.cl i hi) (by rw [em 6 i (by omega) (by omega)]; exact h'.I.st i hi) (fun s hs => ?_) (fun s hs q hq z r' hr' hn w => ?_) (fun z s hs => ?_) (fun z _ => ?_) (fun z => absurd z (by simp)) (fun _ _ _ => Iff.rfl)
        · rw [mi s hs, va', vb']
          by_cases z3 : x ≤ s ∧ s < y
          · rw [if_pos z3]
            rcases h'.I.w i hi s hs with e | ⟨e1, e2, q, e3, e4⟩
            · exact Or.inl e
            · exact Or.inr ⟨z3.1, z3.2, q, by omega, e4⟩
          · rw [if_neg z3]
            exact Or.inl rfl
        · rw [mi s hs] at z
          by_cases z3 : x ≤ s ∧ s < y
          · rw [if_pos z3] at z
            exact hn (h'.I.u r' i s q hr' hi hs hq w z)
          · rw [if_neg z3] at z
            exact nI_m1 (by omega) z.symm
        · rw [em 6 i (by omega) (by omega)] at z
          rw [mi s hs]
          by_cases z3 : x ≤ s ∧ s < y
          · rw [if_pos z3]
            exact h'.I.no i hi z s hs
          · rw [if_neg z3]
        · rw [em 6 i (by omega) (by omega)] at z
          obtain ⟨q, z1, z0, z2⟩ := h'.I.mv i hi z (by simp)
          refine ⟨q, by omega, by rw [zmK (fun j => em 1 j (by omega) (by omega)) (fun j => em 2 j (by omega) (by omega)), em 9 i (by omega) (by omega)]; exact z0, fun s hs s1 s2 => ?_⟩
          rw [va'] at s1
          rw [vb'] at s2
          rw [mi s hs, if_pos ⟨s1, s2⟩]
          exact z2 s hs (by omega) (by omega)
  · rw [if_pos (Or.inl h1), if_pos (Or.inl h1)]
    exact ⟨rfl, h'⟩
