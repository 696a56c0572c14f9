/-! ===== desk and reference: clearing a seat for a wish ===== -/
theorem wstep {L A r q : Nat} {D M : am_D} {m t : Int32} {Q : List Nat} (h : Rel L A D (mStd M r) (some r)) (hI : rI M none) (hr : r < vR M) (h1 : M 6 r = 1) (ht : M 9 r = t) (hQ : mQs (am_up M 6 r 2) t = Q) (hq : q < dC D) : (mWc M r m q ↔ dSuits D q t m ∧ dFree (dUp Q D) q (wayI (nI (va M r)) (nI (vb M r)))) ∧ (mWc M r m q → (dFs L Q 0 (am_up (dUp Q D) 5 q (dUp Q D 5 q ||| wayI (nI (va M r)) (nI (vb M r))))).2 = (mSweep (mWb M r q) t (nI r)).2 ∧ ((mSweep (mWb M r q) t (nI r)).2 = true → Rel L A (am_up (dSit (dSt (some r) Q 0 (dFs L Q 0 (am_up (dUp Q D) 5 q (dUp Q D 5 q ||| wayI (nI (va M r)) (nI (vb M r))))).1) r (nI q) (va M r) (vb M r)) (sd_rn r) 6 2) (mSweep (mWb M r q) t (nI r)).1 none)) := by
  obtain ⟨n1, n2, n3, n4, n5, n6, n7, n8, n9⟩ := h.n
  have es : ∀ n j, n ≠ 12 → mStd M r n j = M n j := fun n j z => mStd_ne z
  have esR : vR (mStd M r) = vR M := zvR (es 0 8 (by omega))
  have esL : vL (mStd M r) = vL M := zvL (es 0 1 (by omega))
  have esF : vF (mStd M r) (vC (mStd M r)) = vF M (vC M) := by rw [zvF (fun j => es 1 j (by omega)), zvC (es 0 2 (by omega))]
  have esa : ∀ k, va (mStd M r) k = va M k := fun k => zva (es 7 k (by omega))
  have esb : ∀ k, vb (mStd M r) k = vb M k := fun k => zvb (es 8 k (by omega))
  have hdcl : dCl t := by
    rw [← ht]
    exact hI.cl r hr
  -- N: the ride stands, fixed
  have hIN := fix_I h.I (Or.inr rfl) (show r < vR (mStd M r) by omega)
  have eN : ∀ n j, n ≠ 12 → ¬ (n = 6 ∧ j = r) → am_up (mStd M r) 6 r 2 n j = M n j := fun n j z1 z2 => (am_up_at z2).trans (es n j z1)
  have eNs : ∀ n j, ¬ (n = 6 ∧ j = r) → am_up (mStd M r) 6 r 2 n j = mStd M r n j := fun n j z => am_up_at z
  have N6 : am_up (mStd M r) 6 r 2 6 r = 2 := am_up_same
  have N12 : ∀ k s, s < 29 → am_up (mStd M r) 6 r 2 12 (29 * k + s) = if k = r then -1 else M 12 (29 * k + s) := fun k s hs => by rw [eNs 12 _ (by omega), mStd_row hs]
  have hQN : mQs (am_up (mStd M r) 6 r 2) t = Q := by
    rw [← hQ]
    refine mQs_c ?_ ?_ (fun i hi => ?_)
    · exact zvR ((eN 0 8 (by omega) (by omega)).trans (am_up_at (by omega)).symm)
    · exact zvL ((eN 0 1 (by omega) (by omega)).trans (am_up_at (by omega)).symm)
    · refine ⟨?_, (eN 7 i (by omega) (by omega)).trans (am_up_at (by omega)).symm, (eN 9 i (by omega) (by omega)).trans (am_up_at (by omega)).symm⟩
      by_cases e : i = r
      · rw [e, N6]
        exact am_up_same.symm
      · rw [eN 6 i (by omega) (by omega), am_up_at (by omega)]
  generalize am_up (mStd M r) 6 r 2 = N at *
  have NR : vR N = vR M := (zvR (eNs 0 8 (by omega))).trans esR
  have NL : vL N = L := (zvL (eNs 0 1 (by omega))).trans n1
  have NF : vF N (vC N) = vF M (vC M) := by rw [zvF (fun j => eNs 1 j (by omega)), zvC (eNs 0 2 (by omega))]; exact esF
  have Na : ∀ k, va N k = va M k := fun k => (zva (eNs 7 k (by omega))).trans (esa k)
  have Nb : ∀ k, vb N k = vb M k := fun k => (zvb (eNs 8 k (by omega))).trans (esb k)
  have NK : ∀ x, mK N x = mK M x := fun x => zmK (fun j => eN 1 j (by omega) (by omega)) (fun j => eN 2 j (by omega) (by omega))
  have hGN : mG N := h.G.c (eNs 0 1 (by omega)) (eNs 0 2 (by omega)) (eNs 0 8 (by omega)) (eNs 0 17 (by omega)) (fun j => eNs 1 j (by omega))
  have hGRN : mGR N := mGR_of h.GR (zvR (eNs 0 8 (by omega))) (zvL (eNs 0 1 (by omega))) (fun j => eNs 7 j (by omega)) (fun j => eNs 8 j (by omega))
  have hSN : rS L D N := h.S.eq (fun _ _ _ => rfl) (fun n j z => eNs n j (by omega))
  have hTN : rT L D N := h.T.eq (fun _ _ => rfl) (zvR (eNs 0 8 (by omega))) (fun k _ s _ => eNs 12 _ (by omega)) n3
  have hKN : rK L D N := h.K.eq rfl (fun _ => rfl) (fun _ => rfl) (eNs 0 17 (by omega)) (fun n j z => eNs n j (by omega))
  have hVN : rV L D N := ⟨by omega, hGN, hGRN, n6, fun i hi => by
    rw [eNs 7 i (by omega), eNs 8 i (by omega), eNs 9 i (by omega)]
    obtain ⟨f2, f3, f4, -⟩ := h.R.2 i (by omega)
    exact ⟨f2, f3, f4⟩⟩
  have hst : ∀ i, i < vR M → D (sd_rn i) 6 = M 6 i := fun i hi => by
    rw [(h.R.2 i (by omega)).2.2.2.2.1]
    exact es 6 i (by omega)
  have hmq := mQs_mem (t := t) (bt := some r) (x := 0) hVN NL (fun i hi => by
    rw [hst i (by omega)]
    by_cases e : i = r
    · rw [e, N6]
      exact ⟨fun z => absurd rfl z.2, fun z => absurd z (by decide)⟩
    · rw [eN 6 i (by omega) (by omega)]
      exact ⟨fun z => z.1, fun z => ⟨z, fun w => e (Option.some.inj w)⟩⟩)
  have hmem : ∀ x, x ∈ Q ↔ x < vR N ∧ N 6 x = 1 ∧ N 9 x = t := fun x => by
    rw [← hQN]
    exact (mQs_mem (t := t) (bt := some r) (x := x) hVN NL (fun i hi => by
      rw [hst i (by omega)]
      by_cases e : i = r
      · rw [e, N6]
        exact ⟨fun z => absurd rfl z.2, fun z => absurd z (by decide)⟩
      · rw [eN 6 i (by omega) (by omega)]
        exact ⟨fun z => z.1, fun z => ⟨z, fun w => e (Option.some.inj w)⟩⟩)).2.2
  have hnd : Q.Nodup := by
    rw [← hQN]
    exact hmq.2.1
  have hrQ : r ∉ Q := fun z => by
    have := ((hmem r).mp z).2.1
    rw [N6] at this
    exact absurd this (by decide)
  have hPQ : ∀ i ∈ Q, ∀ s, s < L → D (sd_pn i) s = N 12 (29 * i + s) := fun i hi s hs => by
    rw [h.P i (by have := ((hmem i).mp hi).1; omega) s hs, eNs 12 _ (by omega)]
  have hT1 := up_T (t := t) (Q := Q) hTN hVN hIN.u hIN.w NL (by omega) hPQ (fun x hx => by
    rw [hmem x]
    exact ⟨fun z => z.2, fun z => ⟨hx, z⟩⟩) (fun x hx => ((hmem x).mp hx).1) (fun x hx => by
    obtain ⟨z1, z2, z3⟩ := (hmem x).mp hx
    obtain ⟨w1, w2, w3, w4, w5, w6, w7⟩ := hVN.w z1
    obtain ⟨q', y1, y0, y2⟩ := hIN.mv x z1 z2 (by simp)
    exact ⟨nI q', fun s s1 s2 => y2 s (by omega) s1 s2⟩)
  -- N1: the queue stands too
  have row1 : ∀ k s, s < 29 → mUpI N t (vR N) 12 (29 * k + s) = if k < vR N ∧ N 6 k = 1 ∧ N 9 k = t then -1 else N 12 (29 * k + s) := fun k s hs => mUpI_row hs
  have e1 : mEq N (mUpI N t (vR N)) := mEq_up mEq.rf
  have e1n : ∀ n j, n ≠ 12 → mUpI N t (vR N) n j = N n j := fun n j z => mUpI_ne z
  have d1 : ∀ n j, n ≠ 5 → dUp Q D n j = D n j := fun n j z => dUp_ne Q D n j z
  generalize hN1 : mUpI N t (vR N) = N1 at *
  have hS1 : rS L (dUp Q D) N1 := hSN.eq (fun n j z => d1 n j (by omega)) (fun n j z => e1n n j (by omega))
  have hK1 : rK L (dUp Q D) N1 := hKN.eq (d1 1 1 (by omega)) (fun x => d1 2 x (by omega)) (fun x => d1 6 x (by omega)) (e1n 0 17 (by omega)) (fun n j z => e1n n j (by omega))
  have hV1 : rV L (dUp Q D) N1 := hVN.eq (d1 1 1 (by omega)) (d1 0 4 (by omega)) (fun i j => d1 _ j (by unfold sd_rn; omega)) e1
  have hU1 : rU N1 := by
    intro x y s z z1 z2 z3 z4 z5 z6
    rw [e1.R] at z1 z2
    rw [row1 x s z3] at z5
    rw [row1 y s z3] at z6
    by_cases y1 : x < vR N ∧ N 6 x = 1 ∧ N 9 x = t
    · rw [if_pos y1] at z5
      exact absurd z5.symm (nI_m1 (by omega))
    · by_cases y2 : y < vR N ∧ N 6 y = 1 ∧ N 9 y = t
      · rw [if_pos y2] at z6
        exact absurd z6.symm (nI_m1 (by omega))
      · rw [if_neg y1] at z5
        rw [if_neg y2] at z6
        exact hIN.u x y s z z1 z2 z3 z4 z5 z6
  obtain ⟨w1, w2, w3, w4, w5, w6, w7⟩ := hVN.w (show r < vR N by omega)
  rw [Na, Nb] at *
  have edC1 : dC (dUp Q D) = dC D := zdC (d1 1 1 (by omega))
  have R1 : vR N1 = vR M := e1.R.trans NR
  have row1r : ∀ s, s < 29 → N1 12 (29 * r + s) = -1 := fun s hs => by
    rw [row1 r s hs, if_neg (fun z => by rw [N6] at z; exact absurd z.2.1 (by decide)), N12 r s hs, if_pos rfl]
  have hclr : mK M q = t → (mClr M (nI q) r ↔ mFT N1 (nI q) (va M r) (vb M r) (-1)) := fun hk => by
    have hbk : ∀ s b, mBk N1 (nI q) (nI s) b ↔ mBk M (nI q) (nI s) b := fun s b => by
      unfold mBk
      rw [e1n 14 b (by omega), e1n 15 b (by omega), e1n 16 b (by omega), eN 14 b (by omega) (by omega), eN 15 b (by omega) (by omega), eN 16 b (by omega) (by omega)]
    have hvB : vB N1 = vB M := (zvB (e1n 0 17 (by omega))).trans (zvB (eN 0 17 (by omega) (by omega)))
    unfold mClr mFT mCC mFr
    constructor
    · intro z s s1 s2
      obtain ⟨y1, y2⟩ := z s s1 s2
      refine ⟨fun b hb hb' => y1 b (by omega) ((hbk s b).mp hb'), fun x hx hx' => ?_⟩
      have hx2 := hx'.2
      rw [row1 x s (by omega)] at hx2
      by_cases c1 : x < vR N ∧ N 6 x = 1 ∧ N 9 x = t
      · rw [if_pos c1] at hx2
        exact nI_m1 (by omega) hx2.symm
      · rw [if_neg c1, N12 x s (by omega)] at hx2
        by_cases c2 : x = r
        · rw [if_pos c2] at hx2
          exact nI_m1 (by omega) hx2.symm
        · rw [if_neg c2] at hx2
          have hxM : x < vR M := by omega
          have hat : mAt M (nI q) s (nI r) x := ⟨by rw [nI_inji (by omega) (by omega)]; exact c2, hx2⟩
          have hnn : ¬ am_fst (mAt M (nI q) s (nI r)) (vR M) 0 < 0 := by
            rw [am_fst_neg _ _ (by omega)]
            exact fun v => v x (by omega) (by omega) hat
          obtain ⟨j, j1, j2, j3, j4, -⟩ := am_fst_at _ _ (by omega) hnn
          have hjx : j = x := hI.u j x s q (by omega) hxM (by omega) (by omega) j3.2 hx2
          have y2' := y2 hnn
          rw [j4, nI_clamp (n := j) (by omega), hjx] at y2'
          rcases hI.st x hxM with v | v | v | v
          · rw [hI.no x hxM (Or.inl v) s (by omega)] at hx2
            exact nI_m1 (by omega) hx2.symm
          · obtain ⟨q', u1, u0, u2⟩ := hI.mv x hxM v (by simp)
            rcases hI.w x hxM s (by omega) with o | ⟨o1, o2, -⟩
            · rw [o] at hx2
              exact nI_m1 (by omega) hx2.symm
            · rw [u2 s (by omega) o1 o2, nI_inji (by omega) (by omega)] at hx2
              rw [hx2, hk] at u0
              exact c1 ⟨by omega, by rw [eN 6 x (by omega) (by omega)]; exact v, by rw [eN 9 x (by omega) (by omega)]; exact u0.symm⟩
          · exact y2' v
          · rw [hI.no x hxM (Or.inr v) s (by omega)] at hx2
            exact nI_m1 (by omega) hx2.symm
    · intro z s s1 s2
      obtain ⟨y1, y2⟩ := z s s1 s2
      refine ⟨fun b hb hb' => y1 b (by omega) ((hbk s b).mpr hb'), fun hnn v => ?_⟩
      obtain ⟨j, j1, j2, j3, j4, -⟩ := am_fst_at _ _ (by omega) hnn
      rw [j4, nI_clamp (n := j) (by omega)] at v
      have hjr : j ≠ r := fun u => j3.1 (by rw [u])
      refine y2 j (by omega) ⟨nI_m1 (by omega), ?_⟩
      rw [row1 j s (by omega), if_neg (fun u => by rw [eN 6 j (by omega) (by omega), v] at u; exact absurd u.2.1 (by decide)), N12 j s (by omega), if_neg hjr]
      exact j3.2
  have hsuit : (mCl M q t ∧ M 4 q &&& m = m) ↔ dSuits D q t m := by
    unfold dSuits
    rw [← h.S.cl hq hdcl, h.S.2.2.2.2.2.2.2.2.1 q, es 4 q (by omega)]
    rw [mCl_c (fun j => ⟨es 1 j (by omega), es 2 j (by omega), es 3 j (by omega)⟩)]
  have hA : mWc M r m q ↔ dSuits D q t m ∧ dFree (dUp Q D) q (wayI (nI (va M r)) (nI (vb M r))) := by
    unfold mWc
    rw [ht, ← hsuit]
    have key : mCl M q t → (mClr M (nI q) r ↔ dFree (dUp Q D) q (wayI (nI (va M r)) (nI (vb M r)))) := fun hc => by
      have h2 : D 2 q = t := by
        rw [← h.S.cl hq hdcl, mCl_c (fun j => ⟨es 1 j (by omega), es 2 j (by omega), es 3 j (by omega)⟩)]
        exact hc
      rw [hclr hc.2, ft_eq hT1 hK1 (rO_m1 (by omega)) n3 (by omega) (by omega) (by omega) (by rw [d1 2 q (by omega), h2]; exact dCl_m1 hdcl) (by omega) (by omega)]
    constructor
    · rintro ⟨z1, z2, z3⟩
      exact ⟨⟨z1, z2⟩, (key z1).mp z3⟩
    · rintro ⟨⟨z1, z2⟩, z3⟩
      exact ⟨z1, z2, (key z1).mpr z3⟩
  refine ⟨hA, fun hw => ?_⟩
  -- the seat is taken by the ride, the others look for seats
  have hkq : mK M q = t := by
    have := hw.1.2
    rw [ht] at this
    exact this
  have hft : mFT N1 (nI q) (va M r) (vb M r) (-1) := (hclr hkq).mp hw.2.2
  have R1' : r < vR N1 := by omega
  have a1 : va N1 r = va M r := (e1.a r).trans (Na r)
  have b1 : vb N1 r = vb M r := (e1.b r).trans (Nb r)
  have hsT := sit_T (q := q) (D' := am_up (dUp Q D) 5 q (dUp Q D 5 q ||| wayI (nI (va M r)) (nI (vb M r)))) hT1 hU1 hV1 ((zvL (e1n 0 1 (by omega))).trans NL) R1' row1r (by omega) (fun q' s => by
    rw [a1, b1]
    by_cases hqq : q' = q
    · subst hqq
      rw [am_up_same, bt_orw (by omega) (by omega)]
      exact ⟨fun z => z.elim Or.inl (fun y => Or.inr ⟨rfl, y⟩), fun z => z.elim Or.inl (fun y => Or.inr y.2)⟩
    · rw [am_up_at (fun z => hqq z.2)]
      exact ⟨Or.inl, fun z => z.elim id (fun y => absurd y.1 hqq)⟩)
  have hsU := sit_U (i := r) (q := q) hU1 hV1.2.2.1 (by omega) (by have := hV1.2.1.2.2.1; omega) R1' (by omega) (fun s s1 s2 => by
    rw [a1] at s1
    rw [b1] at s2
    obtain ⟨y1, y2⟩ := hft s s1 s2
    exact ⟨y1, fun x hx v => y2 x hx ⟨nI_m1 (by omega), v.2⟩⟩)
  have sit1 : ∀ k s, s < 29 → mSit N1 r (nI q) 12 (29 * k + s) = if k = r then (if va M r ≤ s ∧ s < vb M r then nI q else -1) else N1 12 (29 * k + s) := fun k s hs => by
    have := mSit_row (p := nI q) (r := k) hV1.2.2.1 hV1.2.1.2.2.1 R1' hs
    rw [a1, b1] at this
    exact this
  have d2 : ∀ n j, n ≠ 5 → am_up (dUp Q D) 5 q (dUp Q D 5 q ||| wayI (nI (va M r)) (nI (vb M r))) n j = D n j := fun n j z => (am_up_at (fun y => z y.1)).trans (d1 n j z)
  generalize am_up (dUp Q D) 5 q (dUp Q D 5 q ||| wayI (nI (va M r)) (nI (vb M r))) = D2 at *
  -- the reference's own
  have eW : ∀ n j, n ≠ 12 → ¬ (n = 6 ∧ j = r) → mWb M r q n j = M n j := fun n j z1 z2 => by
    unfold mWb
    rw [show mSit (am_up M 6 r 2) r (nI q) n j = am_up M 6 r 2 n j from mPut_ne z1, am_up_at z2]
  have W6 : mWb M r q 6 r = 2 := by
    unfold mWb
    rw [show mSit (am_up M 6 r 2) r (nI q) 6 r = am_up M 6 r 2 6 r from mPut_ne (by omega), am_up_same]
  have hGM : mG M := h.G.c (es 0 1 (by omega)).symm (es 0 2 (by omega)).symm (es 0 8 (by omega)).symm (es 0 17 (by omega)).symm (fun j => (es 1 j (by omega)).symm)
  have hGRM : mGR M := mGR_of h.GR esR.symm esL.symm (fun j => (es 7 j (by omega)).symm) (fun j => (es 8 j (by omega)).symm)
  have WR : vR (mWb M r q) = vR M := zvR (eW 0 8 (by omega) (by omega))
  have WL : vL (mWb M r q) = vL M := zvL (eW 0 1 (by omega) (by omega))
  have W12 : ∀ k s, s < 29 → mWb M r q 12 (29 * k + s) = if k = r then (if va M r ≤ s ∧ s < vb M r then nI q else -1) else M 12 (29 * k + s) := fun k s hs => by
    unfold mWb
    have hGRu : mGR (am_up M 6 r 2) := mGR_of hGRM (zvR (am_up_at (by omega))) (zvL (am_up_at (by omega))) (fun j => am_up_at (by omega)) (fun j => am_up_at (by omega))
    rw [mSit_row hGRu (by rw [zvL (am_up_at (by omega))]; exact hGM.2.2.1) (by rw [zvR (am_up_at (by omega))]; exact hr) hs, zva (am_up_at (by omega)), zvb (am_up_at (by omega)), am_up_at (by omega)]
  have hQW : mQs (mWb M r q) t = Q := by
    rw [← hQ]
    refine mQs_c ?_ ?_ (fun i hi => ?_)
    · rw [WR]
      exact (zvR (am_up_at (by omega))).symm
    · rw [WL]
      exact (zvL (am_up_at (by omega))).symm
    · refine ⟨?_, (eW 7 i (by omega) (by omega)).trans (am_up_at (by omega)).symm, (eW 9 i (by omega) (by omega)).trans (am_up_at (by omega)).symm⟩
      by_cases e : i = r
      · rw [e, W6]
        exact am_up_same.symm
      · rw [eW 6 i (by omega) (by omega), am_up_at (by omega)]
  have row2 : ∀ k s, s < 29 → mUpI (mSav (mWb M r q)) t (vR (mWb M r q)) 12 (29 * k + s) = mSit N1 r (nI q) 12 (29 * k + s) := fun k s hs => by
    have hsv : mEq (mWb M r q) (mSav (mWb M r q)) := mEq_sav
    rw [mUpI_row hs, mSav_row, hsv 6 k (by decide) (by decide), hsv 9 k (by decide) (by decide), W12 k s hs, sit1 k s hs]
    by_cases e : k = r
    · rw [if_pos e, if_pos e, if_neg]
      rw [e, W6]
      exact fun z => absurd z.2.1 (by decide)
    · rw [if_neg e, if_neg e, row1 k s hs, N12 k s hs, if_neg e, eW 6 k (by omega) (by omega), eW 9 k (by omega) (by omega), eN 6 k (by omega) (by omega), eN 9 k (by omega) (by omega), WR, NR]
  have e2 : mEq (mWb M r q) (mUpI (mSav (mWb M r q)) t (vR (mWb M r q))) := mEq_up mEq_sav
  have e2n : ∀ n j, n ≠ 12 → n ≠ 13 → ¬ (n = 6 ∧ j = r) → mUpI (mSav (mWb M r q)) t (vR (mWb M r q)) n j = M n j := fun n j z1 z2 z3 => (e2 n j z1 z2).trans (eW n j z1 z3)
  have hms : mSweep (mWb M r q) t (nI r) = if (mSeat t Q (mUpI (mSav (mWb M r q)) t (vR (mWb M r q)))).2 = true then (am_up (mSeat t Q (mUpI (mSav (mWb M r q)) t (vR (mWb M r q)))).1 0 21 (mWb M r q 0 21 + nI (am_cnt (mMov (mSeat t Q (mUpI (mSav (mWb M r q)) t (vR (mWb M r q)))).1 (mWb M r q) t (nI r)) (vR (mWb M r q)) 0 0)), true) else (mSav (mWb M r q), false) := by
    unfold mSweep
    rw [hQW]
  rw [hms, WR]
  have e3 : ∀ l M', mEq (mWb M r q) M' → mEq (mWb M r q) (mSeat t l M').1 := fun l M' hh => mSeat_eq l M' hh
  rw [WR] at *
  have hsR : vR (mSit N1 r (nI q)) = vR N1 := vR_put
  generalize hM2 : mUpI (mSav (mWb M r q)) t (vR M) = M2 at *
  have R2 : vR M2 = vR M := e2.R.trans WR
  have hS2 : rS L D2 M2 := h.S.eq (fun n j z => d2 n j (by omega)) (fun n j z => (e2n n j (by omega) (by omega) (by omega)).trans (es n j (by omega)).symm)
  have hK2 : rK L D2 M2 := h.K.eq (d2 1 1 (by omega)) (fun x => d2 2 x (by omega)) (fun x => d2 6 x (by omega)) ((e2n 0 17 (by omega) (by omega) (by omega)).trans (es 0 17 (by omega)).symm) (fun n j z => (e2n n j (by omega) (by omega) (by omega)).trans (es n j (by omega)).symm)
  have hT2 : rT L D2 M2 := hsT.eq (fun _ _ => rfl) (by omega) (fun k _ s hs => row2 k s hs) n3
  have hU2 : rU M2 := hsU.eq (by omega) (fun k _ s hs => row2 k s hs)
  have a2 : ∀ k, va M2 k = va M k := fun k => zva (e2n 7 k (by omega) (by omega) (by omega))
  have b2 : ∀ k, vb M2 k = vb M k := fun k => zvb (e2n 8 k (by omega) (by omega) (by omega))
  have hG2 : mG M2 := hGM.c (e2n 0 1 (by omega) (by omega) (by omega)) (e2n 0 2 (by omega) (by omega) (by omega)) (e2n 0 8 (by omega) (by omega) (by omega)) (e2n 0 17 (by omega) (by omega) (by omega)) (fun j => e2n 1 j (by omega) (by omega) (by omega))
  have hGR2 : mGR M2 := mGR_of hGRM R2 (zvL (e2n 0 1 (by omega) (by omega) (by omega))) (fun j => e2n 7 j (by omega) (by omega) (by omega)) (fun j => e2n 8 j (by omega) (by omega) (by omega))
  have hV2 : rV L D2 M2 := ⟨by rw [R2, ← esR, ← h.R.1]; unfold dR; rw [d2 0 4 (by omega)], hG2, hGR2, by rw [zdC (d2 1 1 (by omega))]; exact n6, fun i hi => by
    rw [d2 _ 2 (by unfold sd_rn; omega), d2 _ 3 (by unfold sd_rn; omega), d2 _ 4 (by unfold sd_rn; omega), e2n 7 i (by omega) (by omega) (by omega), e2n 8 i (by omega) (by omega) (by omega), e2n 9 i (by omega) (by omega) (by omega)]
    obtain ⟨f2, f3, f4, -⟩ := h.R.2 i (by omega)
    rw [f2, f3, f4]
    exact ⟨es 7 i (by omega), es 8 i (by omega), es 9 i (by omega)⟩⟩
  have hrow2Q : ∀ i ∈ Q, ∀ s, s < 29 → M2 12 (29 * i + s) = -1 := fun i hi s hs => by
    have hz := (hmem i).mp hi
    have hne : i ≠ r := fun e => hrQ (by rw [← e]; exact hi)
    rw [row2 i s hs, sit1 i s hs, if_neg hne, row1 i s hs, if_pos hz]
  have hrow2o : ∀ i, i ∉ Q → i < vR M → i ≠ r → ∀ s, s < 29 → M2 12 (29 * i + s) = M 12 (29 * i + s) := fun i hi hiR hne s hs => by
    rw [row2 i s hs, sit1 i s hs, if_neg hne, row1 i s hs, if_neg (fun z => hi ((hmem i).mpr z)), N12 i s hs, if_neg hne]
  have hrow2r : ∀ s, s < 29 → M2 12 (29 * r + s) = if va M r ≤ s ∧ s < vb M r then nI q else -1 := fun s hs => by
    rw [row2 r s hs, sit1 r s hs, if_pos rfl]
  obtain ⟨c1, c2⟩ := sw_core (bt := some r) (Q := Q) hdcl hS2 hT2 hK2 hV2 hU2 hnd (fun i hi => ⟨by have := ((hmem i).mp hi).1; omega, by rw [e2n 9 i (by omega) (by omega) (by omega)]; have := ((hmem i).mp hi).2.2; rwa [eN 9 i (by omega) (by omega)] at this, hrow2Q i hi⟩)
  by_cases hok : (mSeat t Q M2).2 = true
  · rw [if_pos hok]
    refine ⟨c1.trans hok, fun _ => ?_⟩
    obtain ⟨k1, k2, k3, k4, k5⟩ := c2 (c1.trans hok)
    have eMf : mEq (mWb M r q) (mSeat t Q M2).1 := e3 Q M2 e2
    have hdE : ∀ n j, n ≠ 5 → n ≠ 19 → ¬ (n = 0 ∧ j = 6) → (∀ i, n ≠ sd_pn i) → dSt (some r) Q 0 (dFs L Q 0 D2).1 n j = D n j := fun n j z1 z2 z3 z4 => by
      rw [dSt_ne Q 0 _ n j z3 z4, dFs_ne _ _ _ _ _ z1 z2, d2 n j z1]
    generalize hDs : dSt (some r) Q 0 (dFs L Q 0 D2).1 = Ds at *
    have hmov : D 0 6 + nI (am_cnt (fun k => k ∈ Q ∧ ¬ some k = some r ∧ ¬ D2 (sd_pn k) (va M2 k) = (mSeat t Q M2).1 12 (29 * k + va M2 k)) (vR M2) 0 0) = mWb M r q 0 21 + nI (am_cnt (mMov (mSeat t Q M2).1 (mWb M r q) t (nI r)) (vR M) 0 0) := by
      rw [h.m, es 0 21 (by omega), eW 0 21 (by omega) (by omega), R2]
      congr 2
      refine am_cnt_c _ _ _ (fun k _ hk => ?_)
      have hkM : k < vR M := by omega
      obtain ⟨v1, v2, v3, v4, v5, v6, v7⟩ := hVN.w (show k < vR N by omega)
      rw [Na, Nb] at *
      unfold mMov
      rw [hmem k, a2, zva (eW 7 k (by omega) (by omega)), nI_inji (by omega) (by omega)]
      by_cases e : k = r
      · rw [e]
        exact ⟨fun z => absurd rfl z.2.1, fun z => absurd rfl z.1⟩
      · have e12 : mWb M r q 12 (29 * k + va M k) = M 12 (29 * k + va M k) := by rw [W12 k _ (by omega), if_neg e]
        have eD : D2 (sd_pn k) (va M k) = M 12 (29 * k + va M k) := by
          rw [d2 _ _ (by unfold sd_pn; omega), h.P k (by omega) _ (by omega), mStd_row (by omega), if_neg e]
        rw [e12, eD, eW 6 k (by omega) (by omega), eW 9 k (by omega) (by omega), eN 6 k (by omega) (by omega), eN 9 k (by omega) (by omega)]
        constructor
        · rintro ⟨⟨z1, z2, z3⟩, z4, z5⟩
          refine ⟨e, z2, z3, ?_, z5⟩
          obtain ⟨q', u1, u0, u2⟩ := hI.mv k hkM z2 (by simp)
          rw [u2 _ (by omega) (by omega) v6]
          exact nI_pos (by omega)
        · rintro ⟨z1, z2, z3, z4, z5⟩
          exact ⟨⟨by omega, z2, z3⟩, fun z => e (Option.some.inj z), z5⟩
    have hd06 : Ds 0 6 = mWb M r q 0 21 + nI (am_cnt (mMov (mSeat t Q M2).1 (mWb M r q) t (nI r)) (vR M) 0 0) := by
      rw [k5, d2 0 6 (by omega)]
      exact hmov
    generalize mWb M r q 0 21 + nI (am_cnt (mMov (mSeat t Q M2).1 (mWb M r q) t (nI r)) (vR M) 0 0) = X at *
    generalize hMf : (mSeat t Q M2).1 = Mf at *
    show Rel L A (am_up (dSit Ds r (nI q) (va M r) (vb M r)) (sd_rn r) 6 2) (am_up Mf 0 21 X) none
    have eZ : ∀ n j, n ≠ 12 → n ≠ 13 → ¬ (n = 6 ∧ j = r) → ¬ (n = 0 ∧ j = 21) → am_up Mf 0 21 X n j = M n j := fun n j z1 z2 z3 z4 => by
      rw [am_up_at z4, eMf n j z1 z2, eW n j z1 z3]
    have Z6 : am_up Mf 0 21 X 6 r = 2 := by
      rw [am_up_at (by omega), eMf 6 r (by decide) (by decide), W6]
    have Z21 : am_up Mf 0 21 X 0 21 = X := am_up_same
    have Z12 : ∀ j, am_up Mf 0 21 X 12 j = Mf 12 j := fun j => am_up_at (by omega)
    generalize am_up Mf 0 21 X = Z at *
    have dF' : ∀ n j, n ≠ 5 → n ≠ 19 → ¬ (n = 0 ∧ j = 6) → (∀ i, n ≠ sd_pn i) → ¬ (n = sd_rn r ∧ j = 6) → am_up (dSit Ds r (nI q) (va M r) (vb M r)) (sd_rn r) 6 2 n j = D n j := fun n j z1 z2 z3 z4 z5 => by
      rw [am_up_at z5, dSit_ne z1 (z4 r), hdE n j z1 z2 z3 z4]
    have dF6 : am_up (dSit Ds r (nI q) (va M r) (vb M r)) (sd_rn r) 6 2 (sd_rn r) 6 = 2 := am_up_same
    have dF06 : am_up (dSit Ds r (nI q) (va M r) (vb M r)) (sd_rn r) 6 2 0 6 = X := by
      rw [am_up_at (by unfold sd_rn; omega), dSit_ne (by omega) (by unfold sd_pn; omega)]
      exact hd06
    have dF5 : ∀ q' s, bt (am_up (dSit Ds r (nI q) (va M r) (vb M r)) (sd_rn r) 6 2 5 q') s ↔ bt (Ds 5 q') s ∨ (q' = q ∧ va M r ≤ s ∧ s < vb M r) := fun q' s => by
      rw [am_up_at (by unfold sd_rn; omega)]
      exact dSit_bt (by omega) (by omega) (by omega)
    have dFp : ∀ k s, am_up (dSit Ds r (nI q) (va M r) (vb M r)) (sd_rn r) 6 2 (sd_pn k) s = if k = r ∧ va M r ≤ s ∧ s < vb M r then nI q else Ds (sd_pn k) s := fun k s => by
      rw [am_up_at (fun y => sd_ne r k y.1.symm), dSit_pn (by omega)]
    generalize am_up (dSit Ds r (nI q) (va M r) (vb M r)) (sd_rn r) 6 2 = F at *
    have Fs : ∀ n j, n ≤ 18 → n ≠ 5 → ¬ (n = 0 ∧ j = 6) → F n j = D n j := fun n j z1 z2 z3 => dF' n j z2 (by omega) z3 (fun i => by unfold sd_pn; omega) (by unfold sd_rn; omega)
    have Fr : ∀ k j, ¬ (k = r ∧ j = 6) → F (sd_rn k) j = D (sd_rn k) j := fun k j z => dF' _ j (by unfold sd_rn; omega) (by unfold sd_rn; omega) (by unfold sd_rn; omega) (fun i => sd_ne k i) (fun y => z ⟨by have := y.1; unfold sd_rn at this; omega, y.2⟩)
    have ZR : vR Z = vR M := zvR (eZ 0 8 (by omega) (by omega) (by omega) (by omega))
    have ZF : vF Z (vC Z) = vF M (vC M) := by rw [zvF (fun j => eZ 1 j (by omega) (by omega) (by omega) (by omega)), zvC (eZ 0 2 (by omega) (by omega) (by omega) (by omega))]
    have Za : ∀ k, va Z k = va M k := fun k => zva (eZ 7 k (by omega) (by omega) (by omega) (by omega))
    have Zb : ∀ k, vb Z k = vb M k := fun k => zvb (eZ 8 k (by omega) (by omega) (by omega) (by omega))
    have ZK : ∀ x, mK Z x = mK M x := fun x => zmK (fun j => eZ 1 j (by omega) (by omega) (by omega) (by omega)) (fun j => eZ 2 j (by omega) (by omega) (by omega) (by omega))
    have frow : ∀ i, i ∉ Q → i < vR M → i ≠ r → ∀ s, s < 29 → Z 12 (29 * i + s) = M 12 (29 * i + s) := fun i hi hiR hne s hs => by
      rw [Z12, (k4 i hi).1 s hs, hrow2o i hi hiR hne s hs]
    have frowr : ∀ s, s < 29 → Z 12 (29 * r + s) = if va M r ≤ s ∧ s < vb M r then nI q else -1 := fun s hs => by
      rw [Z12, (k4 r hrQ).1 s hs, hrow2r s hs]
    have frowQ : ∀ i ∈ Q, ∃ q', q' < vF M (vC M) ∧ mK M q' = t ∧ (∀ s, s < 29 → Z 12 (29 * i + s) = if va M i ≤ s ∧ s < vb M i then nI q' else -1) ∧ ∀ s, Ds (sd_pn i) s = if va M i ≤ s ∧ s < vb M i then nI q' else D (sd_pn i) s := fun i hi => by
      obtain ⟨q', z1, z0, z2, z3⟩ := k3 i hi
      rw [a2, b2] at z2 z3
      have := zdC (d2 1 1 (by omega))
      refine ⟨q', by omega, ?_, fun s hs => by rw [Z12]; exact z2 s hs, fun s => by rw [z3 s, d2 _ s (by unfold sd_pn; omega)]⟩
      rw [← z0.2]
      exact (zmK (fun j => e2n 1 j (by omega) (by omega) (by omega)) (fun j => e2n 2 j (by omega) (by omega) (by omega))).symm
    have hTZ : rT L F Z := by
      intro q' hq' s hs
      rw [dF5, k1 q' hq' s hs]
      constructor
      · rintro (⟨k, z1, z2⟩ | ⟨rfl, z1, z2⟩)
        · have : vR Mf = vR M := (eMf.R).trans WR
          exact ⟨k, by omega, by rw [Z12]; exact z2⟩
        · exact ⟨r, by omega, by rw [frowr s (by omega), if_pos ⟨z1, z2⟩]⟩
      · rintro ⟨k, z1, z2⟩
        have : vR Mf = vR M := (eMf.R).trans WR
        exact Or.inl ⟨k, by omega, by rw [← Z12]; exact z2⟩
    refine h.ride (hGM.c (eZ 0 1 (by omega) (by omega) (by omega) (by omega)) (eZ 0 2 (by omega) (by omega) (by omega) (by omega)) (eZ 0 8 (by omega) (by omega) (by omega) (by omega)) (eZ 0 17 (by omega) (by omega) (by omega) (by omega)) (fun j => eZ 1 j (by omega) (by omega) (by omega) (by omega))) (mGR_of hGRM ZR (zvL (eZ 0 1 (by omega) (by omega) (by omega) (by omega))) (fun j => eZ 7 j (by omega) (by omega) (by omega) (by omega)) (fun j => eZ 8 j (by omega) (by omega) (by omega) (by omega))) (h.O.eq (Fs 0 0 (by omega) (by omega) (by omega)) (Fs 0 4 (by omega) (by omega) (by omega)) (fun j => Fs 12 j (by omega) (by omega) (by omega)) (fun j => Fs 13 j (by omega) (by omega) (by omega)) (fun k => ⟨Fr k 0 (by omega), Fr k 1 (by omega)⟩)) hTZ ?_ ?_ (dF06.trans Z21.symm) ?_ (fun n j z1 z2 z3 _ => Fs n j (by omega) z3 (by omega)) (fun n j z => (eZ n j (by omega) (by omega) (by omega) (by omega)).trans (es n j (by omega)).symm)
    · refine ⟨?_, fun i hi => ?_⟩
      · rw [ZR, ← esR, ← h.R.1]
        unfold dR
        rw [Fs 0 4 (by omega) (by omega) (by omega)]
      · obtain ⟨f2, f3, f4, f5, f6, f7⟩ := h.R.2 i (by omega)
        rw [Fr i 2 (by omega), Fr i 3 (by omega), Fr i 4 (by omega), Fr i 5 (by omega), Fr i 7 (by omega), eZ 7 i (by omega) (by omega) (by omega) (by omega), eZ 8 i (by omega) (by omega) (by omega) (by omega), eZ 9 i (by omega) (by omega) (by omega) (by omega), eZ 10 i (by omega) (by omega) (by omega) (by omega), eZ 11 i (by omega) (by omega) (by omega) (by omega), f2, f3, f4, f5, f7]
        refine ⟨es 7 i (by omega), es 8 i (by omega), es 9 i (by omega), es 10 i (by omega), ?_, es 11 i (by omega)⟩
        by_cases e : i = r
        · rw [e, dF6, Z6]
        · rw [Fr i 6 (by omega), eZ 6 i (by omega) (by omega) (by omega) (by omega), f6]
          exact es 6 i (by omega)
    · intro i hi s hs
      have hiM : i < vR M := by omega
      rw [dFp]
      by_cases e : i = r
      · rw [e, frowr s (by omega)]
        by_cases hz : va M r ≤ s ∧ s < vb M r
        · rw [if_pos hz, if_pos ⟨rfl, hz⟩]
        · rw [if_neg hz, if_neg (fun y => hz y.2), (k4 r hrQ).2 s, d2 _ s (by unfold sd_pn; omega), h.P r (by omega) s hs, mStd_row (by omega), if_pos rfl]
      · rw [if_neg (fun y => e y.1)]
        by_cases hiQ : i ∈ Q
        · obtain ⟨q', z1, z0, z2, z3⟩ := frowQ i hiQ
          rw [z2 s (by omega), z3 s]
          by_cases hz : va M i ≤ s ∧ s < vb M i
          · rw [if_pos hz, if_pos hz]
          · rw [if_neg hz, if_neg hz, h.P i (by omega) s hs, mStd_row (by omega), if_neg e]
            exact (hI.w i hiM s (by omega)).resolve_right (fun y => hz ⟨y.1, y.2.1⟩)
        · rw [(k4 i hiQ).2 s, d2 _ s (by unfold sd_pn; omega), h.P i (by omega) s hs, mStd_row (by omega), if_neg e, frow i hiQ hiM e s (by omega)]
    · refine ⟨fun i hi => ?_, fun i hi => ?_, fun i hi s hs => ?_, k2.eq ?_ (fun _ _ _ _ => Z12 _), fun i hi z s hs => ?_, fun i hi z _ => ?_, fun i hi z => absurd z (by simp)⟩
      · by_cases e : i = r
        · rw [e, Z6]
          exact Or.inr (Or.inr (Or.inl rfl))
        · rw [eZ 6 i (by omega) (by omega) (by omega) (by omega)]
          exact hI.st i (by omega)
      · rw [eZ 9 i (by omega) (by omega) (by omega) (by omega)]
        exact hI.cl i (by omega)
      · rw [Za, Zb, ZF]
        by_cases e : i = r
        · rw [e, frowr s hs]
          by_cases hz : va M r ≤ s ∧ s < vb M r
          · rw [if_pos hz]
            exact Or.inr ⟨hz.1, hz.2, q, by omega, rfl⟩
          · rw [if_neg hz]
            exact Or.inl rfl
        · by_cases hiQ : i ∈ Q
          · obtain ⟨q', z1, z0, z2, z3⟩ := frowQ i hiQ
            rw [z2 s hs]
            by_cases hz : va M i ≤ s ∧ s < vb M i
            · rw [if_pos hz]
              exact Or.inr ⟨hz.1, hz.2, q', z1, rfl⟩
            · rw [if_neg hz]
              exact Or.inl rfl
          · rw [frow i hiQ (by omega) e s hs]
            exact hI.w i (by omega) s hs
      · exact ZR.trans (eMf.R.trans WR).symm
      · by_cases e : i = r
        · rw [e, Z6] at z
          exact absurd z (by decide)
        · rw [eZ 6 i (by omega) (by omega) (by omega) (by omega)] at z
          rw [frow i (fun y => ?_) (by omega) e s hs]
          · exact hI.no i (by omega) z s hs
          · have := ((hmem i).mp y).2.1
            rw [eN 6 i (by omega) (by omega)] at this
            rw [this] at z
            exact absurd z (by decide)
      · by_cases e : i = r
        · rw [e, Z6] at z
          exact absurd z (by decide)
        · rw [eZ 6 i (by omega) (by omega) (by omega) (by omega)] at z
          rw [Za, Zb, ZF, eZ 9 i (by omega) (by omega) (by omega) (by omega)]
          by_cases hiQ : i ∈ Q
          · obtain ⟨q', z1, z0, z2, z3⟩ := frowQ i hiQ
            refine ⟨q', z1, ?_, fun s hs s1 s2 => by rw [z2 s hs, if_pos ⟨s1, s2⟩]⟩
            have := ((hmem i).mp hiQ).2.2
            rw [eN 9 i (by omega) (by omega)] at this
            rw [ZK, z0, this]
          · obtain ⟨q', z1, z0, z2⟩ := hI.mv i (by omega) z (by simp)
            exact ⟨q', z1, by rw [ZK]; exact z0, fun s hs s1 s2 => by rw [frow i hiQ (by omega) e s hs]; exact z2 s hs s1 s2⟩
  · rw [if_neg hok]
    refine ⟨?_, fun z => absurd z Bool.false_ne_true⟩
    rw [c1]
    exact Bool.eq_false_iff.mpr hok
