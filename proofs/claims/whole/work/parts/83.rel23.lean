/-! ===== desk and reference: the wish ===== -/
theorem mSit_id {M : am_D} {r q0 : Nat} (hGR : mGR M) (hL : vL M ≤ 29) (hr : r < vR M) (hW : rW M) (h0 : ∀ s, s < 29 → va M r ≤ s → s < vb M r → M 12 (29 * r + s) = nI q0) : ∀ n j, mSit M r (nI q0) n j = M n j := fun n j => by
  by_cases hn : n = 12
  · subst hn
    by_cases hj : 29 * r ≤ j ∧ j < 29 * r + 29
    · obtain ⟨s, hs, rfl⟩ : ∃ s, s < 29 ∧ j = 29 * r + s := ⟨j - 29 * r, by omega, by omega⟩
      rw [mSit_row hGR hL hr hs, if_pos rfl]
      by_cases hz : va M r ≤ s ∧ s < vb M r
      · rw [if_pos hz, h0 s hs hz.1 hz.2]
      · rw [if_neg hz]
        exact ((hW r hr s hs).resolve_right (fun y => hz ⟨y.1, y.2.1⟩)).symm
    · exact if_neg (fun z => hj z.2)
  · exact mPut_ne hn
theorem mStd_c {M M' : am_D} {r : Nat} (h : ∀ n j, n ≠ 13 → M' n j = M n j) : ∀ n j, n ≠ 13 → mStd M' r n j = mStd M r n j := fun n j z => by
  unfold mStd mPut
  by_cases hz : n = 12 ∧ 29 * r ≤ j ∧ j < 29 * r + 29
  · rw [if_pos hz, if_pos hz]
  · rw [if_neg hz, if_neg hz, h n j z]
/-- alike but for the scratch -/
def zD (D D' : am_D) : Prop := (∀ n j, n ≠ 18 → n ≠ 19 → n ≠ 20 → ¬ (n = 5 ∧ 80 ≤ j) → D' n j = D n j) ∧ ∀ j, j < 80 → D' 20 j = D 5 j
theorem wl_eq {L A r q0 : Nat} {D0 M : am_D} {m t : Int32} {Q : List Nat} (h0 : Rel L A D0 (mStd M r) (some r)) (hI : rI M none) (hGR : mGR M) (hL : vL M ≤ 29) (hr : r < vR M) (h1 : M 6 r = 1) (ht : M 9 r = t) (hQ : mQs (am_up M 6 r 2) t = Q) (hq0 : ∀ s, s < 29 → va M r ≤ s → s < vb M r → M 12 (29 * r + s) = nI q0) : ∀ (f q : Nat) (Dk Mk : am_D), q + f ≤ dC D0 → zD D0 Dk → (∀ n j, n ≠ 13 → Mk n j = M n j) → ((dCwF L Q r t (wayI (nI (va M r)) (nI (vb M r))) m f q Dk).1 = -1 ∧ (mWiF r m (nI q0) f q Mk).1 = -1 ∧ zD D0 (dCwF L Q r t (wayI (nI (va M r)) (nI (vb M r))) m f q Dk).2 ∧ (∀ n j, n ≠ 13 → (mWiF r m (nI q0) f q Mk).2 n j = M n j)) ∨ ∃ q', q' < dC D0 ∧ (dCwF L Q r t (wayI (nI (va M r)) (nI (vb M r))) m f q Dk).1 = nI q' ∧ (mWiF r m (nI q0) f q Mk).1 = D0 3 q' ∧ Rel L A (am_up (dSit (dCwF L Q r t (wayI (nI (va M r)) (nI (vb M r))) m f q Dk).2 r (nI q') (va M r) (vb M r)) (sd_rn r) 6 2) (mWiF r m (nI q0) f q Mk).2 none
  | 0, q, Dk, Mk, _, hD, hM => Or.inl ⟨rfl, rfl, hD, hM⟩
  | f + 1, q, Dk, Mk, hf, hD, hM => by
    have hRk : Rel L A Dk (mStd Mk r) (some r) := h0.c (fun n j z1 z2 z3 z4 => hD.1 n j z1 z2 z3 z4) (fun n j z1 _ _ => mStd_c hM n j z1)
    have kR : vR Mk = vR M := zvR (hM 0 8 (by omega))
    have ka : va Mk r = va M r := zva (hM 7 r (by omega))
    have kb : vb Mk r = vb M r := zvb (hM 8 r (by omega))
    have hIk : rI Mk none := hI.eq kR (by rw [zvF (fun j => hM 1 j (by omega)), zvC (hM 0 2 (by omega))]; exact Nat.le_refl _) (fun x _ => zmK (fun j => hM 1 j (by omega)) (fun j => hM 2 j (by omega))) (fun i _ => ⟨hM 6 i (by omega), hM 7 i (by omega), hM 8 i (by omega), hM 9 i (by omega), fun s _ => hM 12 _ (by omega)⟩)
    have hQk : mQs (am_up Mk 6 r 2) t = Q := by
      rw [← hQ]
      refine mQs_c ?_ ?_ (fun i hi => ?_)
      · exact zvR ((am_up_at (by omega)).trans ((hM 0 8 (by omega)).trans (am_up_at (by omega)).symm))
      · exact zvL ((am_up_at (by omega)).trans ((hM 0 1 (by omega)).trans (am_up_at (by omega)).symm))
      · refine ⟨?_, (am_up_at (by omega)).trans ((hM 7 i (by omega)).trans (am_up_at (by omega)).symm), (am_up_at (by omega)).trans ((hM 9 i (by omega)).trans (am_up_at (by omega)).symm)⟩
        by_cases e : i = r
        · rw [e, am_up_same, am_up_same]
        · rw [am_up_at (fun z => e z.2), am_up_at (fun z => e z.2), hM 6 i (by omega)]
    have eC : dC Dk = dC D0 := zdC (hD.1 1 1 (by omega) (by omega) (by omega) (by omega))
    have hkt : Mk 9 r = t := (hM 9 r (by omega)).trans ht
    obtain ⟨sA, sB⟩ := wstep (m := m) (q := q) hRk hIk (by omega) ((hM 6 r (by omega)).trans h1) hkt hQk (by omega)
    rw [ka, kb] at sA sB
    have hDup : ∀ n j, n ≠ 5 → dUp Q Dk n j = Dk n j := fun n j z => dUp_ne Q Dk n j z
    unfold dCwF mWiF
    by_cases hw : mWc Mk r m q
    · obtain ⟨a1, a2⟩ := sA.mp hw
      obtain ⟨b1, b2⟩ := sB hw
      rw [if_pos a1, if_pos a2, if_pos hw, b1, hkt]
      by_cases hok : (mSweep (mWb Mk r q) t (nI r)).2 = true
      · rw [if_pos hok, if_pos hok]
        refine Or.inr ⟨q, by omega, rfl, ?_, b2 hok⟩
        show mTold (mSweep (mWb Mk r q) t (nI r)).1 (nI q) = D0 3 q
        rw [h0.S.2.2.2.2.2.2.2.1 q (by omega)]
        refine mTold_c (fun j => ?_)
        rw [mSweep_at (by omega) (by omega) (by omega), mStd_ne (by omega)]
        unfold mWb
        rw [show mSit (am_up Mk 6 r 2) r (nI q) 1 j = am_up Mk 6 r 2 1 j from mPut_ne (by omega), am_up_at (by omega), hM 1 j (by omega)]
      · rw [if_neg hok, if_neg hok]
        refine wl_eq h0 hI hGR hL hr h1 ht hQ hq0 f (q + 1) _ _ (by omega) ⟨fun n j z1 z2 z3 z4 => ?_, fun j hj => ?_⟩ (fun n j z => ?_)
        · by_cases e5 : n = 5
          · subst e5
            rw [dCp_at, if_pos (by omega), dFs_ne _ _ _ _ _ (by omega) (by omega), am_up_at (by omega), hDup 20 j (by omega), hD.2 j (by omega)]
          · unfold dCp
            rw [if_neg (fun y => e5 y.1), dFs_ne _ _ _ _ _ e5 z2, am_up_at (fun y => e5 y.1), hDup n j e5, hD.1 n j z1 z2 z3 z4]
        · unfold dCp
          rw [if_neg (fun y => absurd y.1 (by decide)), dFs_ne _ _ _ _ _ (by omega) (by omega), am_up_at (by omega), hDup 20 j (by omega), hD.2 j hj]
        · rw [mSweep_f hok]
          have eW : ∀ n j, n ≠ 12 → ¬ (n = 6 ∧ j = r) → mWb Mk r q n j = Mk n j := fun n j z1 z2 => by
            unfold mWb
            rw [show mSit (am_up Mk 6 r 2) r (nI q) n j = am_up Mk 6 r 2 n j from mPut_ne z1, am_up_at z2]
          by_cases hn : n = 12
          · subst hn
            by_cases hj : 29 * r ≤ j ∧ j < 29 * r + 29
            · obtain ⟨s, hs, rfl⟩ : ∃ s, s < 29 ∧ j = 29 * r + s := ⟨j - 29 * r, by omega, by omega⟩
              unfold mSit
              rw [mPut_row hs, if_pos rfl]
              unfold mSitG
              have e7 : am_up (mSav (mWb Mk r q)) 6 r 1 7 r = M 7 r := by
                rw [am_up_at (by omega), show mSav (mWb Mk r q) 7 r = mWb Mk r q 7 r from mSavI_ne (by decide), eW 7 r (by omega) (by omega), hM 7 r (by omega)]
              have e8 : am_up (mSav (mWb Mk r q)) 6 r 1 8 r = M 8 r := by
                rw [am_up_at (by omega), show mSav (mWb Mk r q) 8 r = mWb Mk r q 8 r from mSavI_ne (by decide), eW 8 r (by omega) (by omega), hM 8 r (by omega)]
              rw [e7, e8]
              have hg := mSitG_e (p := nI q0) hGR hL hr hs
              unfold mSitG at hg
              rw [hg]
              by_cases hz : va M r ≤ s ∧ s < vb M r
              · rw [if_pos hz, hq0 s hs hz.1 hz.2]
              · rw [if_neg hz]
                exact ((hI.w r hr s hs).resolve_right (fun y => hz ⟨y.1, y.2.1⟩)).symm
            · rw [show mSit (am_up (mSav (mWb Mk r q)) 6 r 1) r (nI q0) 12 j = am_up (mSav (mWb Mk r q)) 6 r 1 12 j from if_neg (fun y => hj y.2), am_up_at (by omega), show mSav (mWb Mk r q) 12 j = mWb Mk r q 12 j from mSavI_ne (by decide)]
              unfold mWb
              rw [show mSit (am_up Mk 6 r 2) r (nI q) 12 j = am_up Mk 6 r 2 12 j from if_neg (fun y => hj y.2), am_up_at (by omega), hM 12 j (by omega)]
          · rw [show mSit (am_up (mSav (mWb Mk r q)) 6 r 1) r (nI q0) n j = am_up (mSav (mWb Mk r q)) 6 r 1 n j from mPut_ne hn]
            by_cases h6 : n = 6 ∧ j = r
            · obtain ⟨rfl, rfl⟩ := h6
              rw [am_up_same, h1]
            · rw [am_up_at h6, show mSav (mWb Mk r q) n j = mWb Mk r q n j from mSavI_ne z, eW n j hn h6, hM n j z]
    · rw [if_neg hw]
      by_cases a1 : dSuits Dk q t m
      · rw [if_pos a1, if_neg (fun a2 => hw (sA.mpr ⟨a1, a2⟩))]
        refine wl_eq h0 hI hGR hL hr h1 ht hQ hq0 f (q + 1) _ _ (by omega) ⟨fun n j z1 z2 z3 z4 => ?_, fun j hj => ?_⟩ hM
        · by_cases e5 : n = 5
          · subst e5
            rw [dCp_at, if_pos (by omega), hDup 20 j (by omega), hD.2 j (by omega)]
          · unfold dCp
            rw [if_neg (fun y => e5 y.1), hDup n j e5, hD.1 n j z1 z2 z3 z4]
        · unfold dCp
          rw [if_neg (fun y => absurd y.1 (by decide)), hDup 20 j (by omega), hD.2 j hj]
      · rw [if_neg a1]
        exact wl_eq h0 hI hGR hL hr h1 ht hQ hq0 f (q + 1) Dk Mk (by omega) hD hM
theorem wishOk_eq {L A i : Nat} {D M : am_D} {m : Int32} (h : Rel L A D M none) (hi : i < vR M) (h1 : M 6 i = 1) : (dWishOk L D i m).1 = (mWishOk M i m).1 ∧ Rel L A (dWishOk L D i m).2 (mWishOk M i m).2 none := by
  obtain ⟨n1, n2, n3, n4, n5, n6, n7, n8, n9⟩ := h.n
  obtain ⟨w1, w2, w3, w4, w5, w6, w7⟩ := h.V.w hi
  have h0 := lv_rel h hi
  have es : ∀ n j, n ≠ 12 → mStd M i n j = M n j := fun n j z => mStd_ne z
  have hcl := h.I.cl i hi
  obtain ⟨q0, q01, q00, q02⟩ := h.I.mv i hi h1 (by simp)
  have ed : ∀ n j, n ≠ 5 → n ≠ sd_pn i → dLv D i (va M i) (vb M i) n j = D n j := fun n j z1 z2 => dLv_ne z1 z2
  have er : ∀ j, dLv D i (va M i) (vb M i) (sd_rn i) j = D (sd_rn i) j := fun j => ed _ j (by unfold sd_rn; omega) (sd_ne _ _)
  have eC : dC (dLv D i (va M i) (vb M i)) = dC D := zdC (ed 1 1 (by omega) (by unfold sd_pn; omega))
  have hlow : dLow (dLv D i (va M i) (vb M i)) i m = am_fst (mWs M i m) (vF M (vC M)) 0 := by
    unfold dLow
    rw [er, er, er, w1, w2, w3, eC, n5]
    refine am_fst_c _ _ (fun q _ hq => ?_)
    unfold dSuits mWs
    rw [← h0.S.cl (by omega) hcl, h0.S.2.2.2.2.2.2.2.2.1 q, es 4 q (by omega), mCl_c (fun j => ⟨es 1 j (by omega), es 2 j (by omega), es 3 j (by omega)⟩)]
    have hfr : mCl M q (M 9 i) → (dFree (dLv D i (va M i) (vb M i)) q (wayI (nI (va M i)) (nI (vb M i))) ↔ mFT M (nI q) (va M i) (vb M i) (nI i)) := fun hc => by
      have h2 : dLv D i (va M i) (vb M i) 2 q = M 9 i := by
        rw [← h0.S.cl (by omega) hcl, mCl_c (fun j => ⟨es 1 j (by omega), es 2 j (by omega), es 3 j (by omega)⟩)]
        exact hc
      rw [← ft_eq (one := nI i) h0.T h0.K (fun r hr he s hs => h0.I.x0 r hr (by rw [nI_inji (by have := h0.n.2.2.2.1; omega) (by omega)] at he; rw [he]) s hs) n3 (by have := h0.n.2.2.2.1; omega) (by omega) (by omega) (by rw [h2]; exact dCl_m1 hcl) (by omega) (by omega)]
      unfold mFT mFr mBk mAt
      rw [zvB (es 0 17 (by omega)), zvR (es 0 8 (by omega))]
      constructor
      · intro z s s1 s2
        obtain ⟨y1, y2⟩ := z s s1 s2
        refine ⟨fun b hb => by have := y1 b hb; rwa [es 14 b (by omega), es 15 b (by omega), es 16 b (by omega)] at this, fun r hr v => y2 r hr ⟨v.1, ?_⟩⟩
        rw [mStd_row (by omega), if_neg (fun e => v.1 (by rw [e]))]
        exact v.2
      · intro z s s1 s2
        obtain ⟨y1, y2⟩ := z s s1 s2
        refine ⟨fun b hb => by rw [es 14 b (by omega), es 15 b (by omega), es 16 b (by omega)]; exact y1 b hb, fun r hr v => y2 r hr ⟨v.1, ?_⟩⟩
        have := v.2
        rw [mStd_row (by omega), if_neg (fun e => v.1 (by rw [e]))] at this
        exact this
    constructor
    · rintro ⟨⟨z1, z2⟩, z3⟩
      exact ⟨z1, z2, (hfr z1).mp z3⟩
    · rintro ⟨z1, z2, z3⟩
      exact ⟨⟨z1, z2⟩, (hfr z1).mpr z3⟩
  have hrow0 : D (sd_pn i) (va M i) = nI q0 := by
    rw [h.P i hi _ (by omega)]
    exact q02 _ (by omega) (by omega) w6
  unfold dWishOk mWishOk
  rw [w4, w5]
  rcases am_fst_or (p := mWs M i m) (vF M (vC M)) 0 with hno | ⟨q, -, hq, hyes⟩
  · -- no seat is free for the way
    rw [hno] at hlow
    have eWr : dWr L (dLv D i (va M i) (vb M i)) i m = dClear L (dLv D i (va M i) (vb M i)) i m := by
      unfold dWr
      rw [if_pos hlow]
    rw [hno, if_pos (show (-1 : Int32) < 0 by decide), eWr]
    unfold dClear
    rw [er, er, er, w1, w2, w3, hrow0, q02 _ (by omega) (Nat.le_refl _) w6, eC]
    have hQ : dQs L (dLv D i (va M i) (vb M i)) (M 9 i) (some i) = mQs (am_up M 6 i 2) (M 9 i) := by
      refine qs_eq ?_ ?_ ?_ ?_ (fun k hk => ?_)
      · rw [zvL (am_up_at (by omega))]
        exact n1
      · exact h.G.c (am_up_at (by omega)) (am_up_at (by omega)) (am_up_at (by omega)) (am_up_at (by omega)) (fun j => am_up_at (by omega))
      · exact mGR_of h.GR (zvR (am_up_at (by omega))) (zvL (am_up_at (by omega))) (fun j => am_up_at (by omega)) (fun j => am_up_at (by omega))
      · rw [zvR (am_up_at (by omega)), ← n7]
        unfold dR
        rw [ed 0 4 (by omega) (by unfold sd_pn; omega)]
      · rw [zvR (am_up_at (by omega))] at hk
        obtain ⟨f2, f3, f4, f5, f6, f7⟩ := h.R.2 k hk
        have erk : ∀ j, dLv D i (va M i) (vb M i) (sd_rn k) j = D (sd_rn k) j := fun j => ed _ j (by unfold sd_rn; omega) (sd_ne _ _)
        rw [erk, erk, erk, f2, f4, f6, am_up_at (by omega), am_up_at (by omega)]
        refine ⟨rfl, rfl, ?_⟩
        by_cases e : k = i
        · rw [e, am_up_same]
          exact ⟨fun z => absurd rfl z.2, fun z => absurd z (by decide)⟩
        · rw [am_up_at (fun z => e z.2)]
          exact ⟨fun z => z.1, fun z => ⟨z, fun y => e (Option.some.inj y)⟩⟩
    rw [hQ, ← n5]
    have hwl := wl_eq (m := m) (t := M 9 i) (Q := mQs (am_up M 6 i 2) (M 9 i)) (q0 := q0) h0 h.I h.GR (by omega) hi h1 rfl rfl q02 (dC D) 0 (dCp (dPut (dLv D i (va M i) (vb M i)) (mQs (am_up M 6 i 2) (M 9 i))) 5 20) M (by omega) ⟨fun n j z1 z2 z3 z4 => by
      unfold dCp
      rw [if_neg (fun y => z3 y.1), dPut_ne z1], fun j hj => by rw [dCp_at, if_pos hj, dPut_ne (by omega)]⟩ (fun _ _ _ => rfl)
    rcases hwl with ⟨c1, c2, c3, c4⟩ | ⟨q', c1, c2, c3, c4⟩
    · rw [c1, if_pos rfl]
      refine ⟨c2.symm, ?_⟩
      generalize (dCwF L (mQs (am_up M 6 i 2) (M 9 i)) i (M 9 i) (wayI (nI (va M i)) (nI (vb M i))) m (dC D) 0 (dCp (dPut (dLv D i (va M i) (vb M i)) (mQs (am_up M 6 i 2) (M 9 i))) 5 20)).2 = De at *
      generalize (mWiF i m (nI q0) (dC D) 0 M).2 = Me at *
      have hRe : Rel L A De (mStd Me i) (some i) := h0.c (fun n j z1 z2 z3 z4 => c3.1 n j z1 z2 z3 z4) (fun n j z1 _ _ => mStd_c c4 n j z1)
      have eR : vR Me = vR M := zvR (c4 0 8 (by omega))
      have sR : vR (mStd Me i) = vR Me := zvR (mStd_ne (by omega))
      have sa : va (mStd Me i) i = va M i := (zva (mStd_ne (by omega))).trans (zva (c4 7 i (by omega)))
      have sb : vb (mStd Me i) i = vb M i := (zvb (mStd_ne (by omega))).trans (zvb (c4 8 i (by omega)))
      have hs := sit_rel (q := q0) hRe (by omega) (Or.inl ((mStd_ne (by omega)).trans ((c4 6 i (by omega)).trans h1))) (by rw [zdC (c3.1 1 1 (by omega) (by omega) (by omega) (by omega)), eC]; omega) (fun _ => by
        rw [mStd_ne (by omega), c4 9 i (by omega), ← q00]
        exact zmK (fun j => (mStd_ne (by omega)).trans (c4 1 j (by omega))) (fun j => (mStd_ne (by omega)).trans (c4 2 j (by omega)))) (fun s s1 s2 r' hr' hn v => by
        rw [sa] at s1
        rw [sb] at s2
        rw [mStd_row (by omega), if_neg hn, c4 12 _ (by omega)] at v
        exact hn (h.I.u r' i s q0 (by omega) hi (by omega) (by omega) v (q02 s (by omega) s1 s2)))
      rw [sa, sb, mSit_std] at hs
      have hGe : mGR Me := mGR_of h.GR eR (zvL (c4 0 1 (by omega))) (fun j => c4 7 j (by omega)) (fun j => c4 8 j (by omega))
      have hid := mSit_id (M := Me) (r := i) (q0 := q0) hGe (by rw [zvL (c4 0 1 (by omega))]; omega) (by omega) (fun r hr s hs => by
        rw [c4 12 _ (by omega), zva (c4 7 r (by omega)), zvb (c4 8 r (by omega)), zvF (fun j => c4 1 j (by omega)), zvC (c4 0 2 (by omega))]
        exact h.I.w r (by omega) s hs) (fun s hs s1 s2 => by
        rw [zva (c4 7 i (by omega))] at s1
        rw [zvb (c4 8 i (by omega))] at s2
        rw [c4 12 _ (by omega)]
        exact q02 s hs s1 s2)
      exact hs.c (fun _ _ _ _ _ _ => rfl) (fun n j _ _ _ => (hid n j).symm)
    · have hne : ¬ nI q' = -1 := nI_m1 (by omega)
      rw [c2, if_neg hne, nI_clamp (n := q') (by omega)]
      refine ⟨?_, c4⟩
      rw [c3, ed 3 q' (by omega) (by unfold sd_pn; omega)]
  · -- a seat is free for the way
    have hq80 : q < 80 := by omega
    have hq' : q < vF M (vC M) := by omega
    have hws : mWs M i m q := by
      obtain ⟨j, j1, j2, j3, j4, -⟩ := am_fst_at (p := mWs M i m) (vF M (vC M)) 0 (by omega) (by rw [hyes]; exact nI_pos (by omega))
      rw [hyes, nI_inji (by omega) (by omega)] at j4
      rw [j4]
      exact j3
    rw [hyes] at hlow
    have eWr : dWr L (dLv D i (va M i) (vb M i)) i m = (nI q, dLv D i (va M i) (vb M i)) := by
      unfold dWr
      rw [hlow, if_neg (nI_m1 (by omega))]
    rw [hyes, if_neg (nI_pos (by omega)), eWr]
    dsimp only
    rw [if_neg (nI_m1 (by omega)), nI_clamp (n := q) (by omega)]
    have sa : va (mStd M i) i = va M i := zva (es 7 i (by omega))
    have sb : vb (mStd M i) i = vb M i := zvb (es 8 i (by omega))
    have sR : vR (mStd M i) = vR M := zvR (es 0 8 (by omega))
    have hs := sit_rel (q := q) h0 (by omega) (Or.inl ((es 6 i (by omega)).trans h1)) (by omega) (fun _ => by
      rw [es 9 i (by omega), ← hws.1.2]
      exact zmK (fun j => es 1 j (by omega)) (fun j => es 2 j (by omega))) (fun s s1 s2 r' hr' hn v => by
      rw [sa] at s1
      rw [sb] at s2
      rw [mStd_row (by omega), if_neg hn] at v
      exact (hws.2.2 s s1 s2).2 r' (by omega) ⟨by rw [nI_inji (by omega) (by omega)]; exact hn, v⟩)
    rw [sa, sb, mSit_std] at hs
    refine ⟨?_, fix_rel hs (by rw [show vR (mSit M i (nI q)) = vR M from vR_put]; exact hi)⟩
    rw [h.S.2.2.2.2.2.2.2.1 q (by omega)]
    exact (mTold_c (fun j => by rw [am_up_at (by omega), show mSit M i (nI q) 1 j = M 1 j from mPut_ne (by omega)])).symm
theorem wish_k {L A : Nat} {D M : am_D} {r m : Int32} {k : Int32 → am_D → Prop} (h : Rel L A D M none) (hk : ∀ D', Rel L A D' (mWish M r m).2 none → k (mWish M r m).1 D') : ((¬ dLiv D r ∨ ¬ D (sd_rn r.toNatClampNeg) 6 = 1 ∨ ¬ (¬ m < 0 ∧ m ≤ 255)) → k (-2) D) ∧ ∀ i, r = nI i → i < dR D → D (sd_rn i) 6 = 1 → (¬ m < 0 ∧ m ≤ 255) → k (dWishOk L D i m).1 (dWishOk L D i m).2 := by
  have h' := h.mT
  obtain ⟨n1, n2, n3, n4, n5, n6, n7, n8, n9⟩ := h'.n
  have hl := liv_eq (r := r) h'.R h'.I.st h'.O.2.2.2.1 h'.G.2.2.2.2.2.1 n4
  have hmm : (¬ m < 0 ∧ m ≤ 255) ↔ ¬ (m < 0 ∨ 255 < m) := by
    rw [← Int32.not_lt]
    exact ⟨fun z y => y.elim z.1 z.2, fun z => ⟨fun y => z (Or.inl y), fun y => z (Or.inr y)⟩⟩
  constructor
  · intro hb
    have e : mWish M r m = (-2, mT M) := by
      unfold mWish
      rw [if_pos]
      rcases hb with z | z | z
      · exact Or.inl (fun y => z (hl.mpr y))
      · by_cases hv : mLiv (mT M) r
        · obtain ⟨i, rfl, hi, hi2, hi3⟩ := mLiv_e h'.G hv
          rw [hi2] at z ⊢
          rw [(h'.R.2 i hi).2.2.2.2.1] at z
          exact Or.inr (Or.inl z)
        · exact Or.inl hv
      · rw [hmm] at z
        exact Or.inr (Or.inr (Classical.not_not.mp z))
    rw [e] at hk
    exact hk D h'
  · intro i hr hi h6 hm
    subst hr
    rw [n7] at hi
    have f6 := (h'.R.2 i hi).2.2.2.2.1
    rw [h6] at f6
    have hc : (nI i).toNatClampNeg = i := nI_clamp (by omega)
    have hlv : dLiv D (nI i) := ⟨nI_pos (by omega), by rw [h'.O.2.2.2.1, n7, nI_lei (by omega) (by omega)]; omega, by rw [hc, h6]; decide⟩
    have e : mWish M (nI i) m = mWishOk (mT M) i m := by
      unfold mWish
      rw [if_neg, hc]
      rintro (z | z | z)
      · exact z (hl.mp hlv)
      · rw [hc] at z
        exact z f6.symm
      · exact (hmm.mp hm) z
    rw [e] at hk
    obtain ⟨c1, c2⟩ := wishOk_eq (m := m) h' hi f6.symm
    rw [c1]
    exact hk _ c2
