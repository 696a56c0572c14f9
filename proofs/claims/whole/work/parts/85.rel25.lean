/-! ===== desk and reference: rides of a coach lose their seats ===== -/
theorem lv_bt2 {L i q s : Nat} {D M : am_D} (hV : rV L D M) (hP : rP L D M) (hW : rW M) (hL : vL M = L) (h80 : vF M (vC M) ≤ 80) (hi : i < vR M) (hq : q < 80) (hs : s < L) : bt (dLv D i (va M i) (vb M i) 5 q) s ↔ bt (D 5 q) s ∧ ¬ M 12 (29 * i + s) = nI q := by
  have hL29 := hV.2.1.2.2.1
  obtain ⟨w1, w2, w3, w4, w5, w6, w7⟩ := hV.w hi
  have hps : ∀ u, u < L → D (sd_pn i) u = -1 ∨ ∃ q, q < 80 ∧ D (sd_pn i) u = nI q := hP.Ps hV.1 hW (by omega) h80 i (by rw [hV.1]; exact hi)
  rw [dLv_bt (fun u u1 u2 => hps u (by omega)) (by omega) (by omega) hq (by omega)]
  refine ⟨fun z => ⟨z.1, fun y => ?_⟩, fun z => ⟨z.1, fun y => z.2 ?_⟩⟩
  · rcases hW i hi s (by omega) with e | ⟨e1, e2, -⟩
    · rw [e] at y
      exact nI_m1 (by omega) y.symm
    · exact z.2 ⟨e1, e2, by rw [hP i hi s hs]; exact y⟩
  · rw [← hP i hi s hs]
    exact y.2.2
theorem mLose_at {M : am_D} {r n j : Nat} : mLose M r n j = if n = 12 ∧ 29 * r ≤ j ∧ j < 29 * r + 29 then -1 else if n = 11 ∧ j = r then 0 else if n = 6 ∧ j = r then 3 else if n = 17 ∧ j = r then 1 else M n j := rfl
theorem in_eq {L A c i : Nat} {D M : am_D} {x : Option Nat} (h : Rc L A D M x) (hc : c < vC M) (hi : i < vR M) : dIn D i c ↔ 0 < M 6 i ∧ mIn M i c := by
  obtain ⟨n1, n2, n3, n4, n5, n6, n7, n8, n9⟩ := h.n
  obtain ⟨w1, w2, w3, w4, w5, w6, w7⟩ := h.V.w hi
  have hF := h.G.2.2.2.2.2.2.2.2.2.1 c (by omega)
  unfold dIn mIn
  rw [w4, w5, h.S.2.2.1 c (by omega), h.S.2.2.1 (c + 1) (by omega)]
  constructor
  · rintro ⟨s, s1, s2, s3, s4, s5⟩
    rw [h.P i hi s (by omega)] at s3 s4 s5
    refine ⟨?_, s, by omega, s4, s5⟩
    rw [h.I.st.pos hi]
    exact fun z => s3 (h.I.no i hi (Or.inl z) s (by omega))
  · rintro ⟨-, s, s1, s2, s3⟩
    rcases h.I.w i hi s s1 with z | ⟨z1, z2, q, z3, z4⟩
    · rw [z, hF] at s2
      exact absurd (Int32.lt_of_le_of_lt s2 (by decide : (-1 : Int32) < 0)) (nI_pos (by have := h.G.F80 (show c ≤ vC M by omega); omega))
    · refine ⟨s, z1, z2, ?_, ?_, ?_⟩
      · rw [h.P i hi s (by omega), z4]
        exact nI_m1 (by omega)
      · rw [h.P i hi s (by omega)]
        exact s2
      · rw [h.P i hi s (by omega)]
        exact s3
theorem lo_eq {L A c : Nat} : ∀ (f i : Nat) (D M : am_D), Rc L A D M none → i + f = vR M → c < vC M → (∀ k, k < vR M → i ≤ k → D (sd_rn k) 6 = M 6 k) → (∀ k, k < i → (M 17 k = 0 ∧ D (sd_rn k) 6 = M 6 k) ∨ (M 17 k = 1 ∧ D (sd_rn k) 6 = 4 ∧ M 6 k = 3)) → Rc L A (dLoF c f i D) (mRcL c f i M) none ∧ vR (mRcL c f i M) = vR M ∧ ∀ k, k < vR M → (mRcL c f i M 17 k = 0 ∧ dLoF c f i D (sd_rn k) 6 = mRcL c f i M 6 k) ∨ (mRcL c f i M 17 k = 1 ∧ dLoF c f i D (sd_rn k) 6 = 4 ∧ mRcL c f i M 6 k = 3)
  | 0, i, D, M, h, hi, _, _, h2 => ⟨h, rfl, fun k hk => h2 k (by omega)⟩
  | f + 1, i, D, M, h, hi, hc, h1, h2 => by
    obtain ⟨n1, n2, n3, n4, n5, n6, n7, n8, n9⟩ := h.n
    have hiM : i < vR M := by omega
    have hin := in_eq h hc hiM
    obtain ⟨w1, w2, w3, w4, w5, w6, w7⟩ := h.V.w hiM
    unfold dLoF mRcL
    by_cases hz : 0 < M 6 i ∧ mIn M i c
    · rw [if_pos hz, if_pos (hin.mpr hz), w4, w5]
      have ed : ∀ n j, n ≠ 5 → n ≠ sd_pn i → ¬ (n = sd_rn i ∧ (j = 6 ∨ j = 7)) → am_up (am_up (dLv D i (va M i) (vb M i)) (sd_rn i) 7 0) (sd_rn i) 6 4 n j = D n j := fun n j z1 z2 z3 => by
        rw [am_up_at (fun y => z3 ⟨y.1, Or.inl y.2⟩), am_up_at (fun y => z3 ⟨y.1, Or.inr y.2⟩), dLv_ne z1 z2]
      have d6 : am_up (am_up (dLv D i (va M i) (vb M i)) (sd_rn i) 7 0) (sd_rn i) 6 4 (sd_rn i) 6 = 4 := am_up_same
      have d7 : am_up (am_up (dLv D i (va M i) (vb M i)) (sd_rn i) 7 0) (sd_rn i) 6 4 (sd_rn i) 7 = 0 := by
        rw [am_up_at (fun y => absurd y.2 (by decide)), am_up_same]
      have d5 : ∀ q, q < 80 → ∀ s, s < L → (bt (am_up (am_up (dLv D i (va M i) (vb M i)) (sd_rn i) 7 0) (sd_rn i) 6 4 5 q) s ↔ bt (D 5 q) s ∧ ¬ M 12 (29 * i + s) = nI q) := fun q hq s hs => by
        rw [am_up_at (fun y => by have := y.1; unfold sd_rn at this; omega), am_up_at (fun y => by have := y.1; unfold sd_rn at this; omega)]
        exact lv_bt2 h.V h.P h.I.w n1 (by omega) hiM hq hs
      have dp : ∀ k s, am_up (am_up (dLv D i (va M i) (vb M i)) (sd_rn i) 7 0) (sd_rn i) 6 4 (sd_pn k) s = if k = i ∧ va M i ≤ s ∧ s < vb M i then -1 else D (sd_pn k) s := fun k s => by
        rw [am_up_at (fun y => sd_ne i k y.1.symm), am_up_at (fun y => sd_ne i k y.1.symm), dLv_pn]
      have em : ∀ n j, n ≠ 12 → ¬ ((n = 6 ∨ n = 11 ∨ n = 17) ∧ j = i) → mLose M i n j = M n j := fun n j z1 z2 => by
        rw [mLose_at, if_neg (fun y => z1 y.1), if_neg (by omega), if_neg (by omega), if_neg (by omega)]
      have m6 : mLose M i 6 i = 3 := by
        rw [mLose_at, if_neg (by omega), if_neg (by omega), if_pos ⟨rfl, rfl⟩]
      have m11 : mLose M i 11 i = 0 := by
        rw [mLose_at, if_neg (by omega), if_pos ⟨rfl, rfl⟩]
      have m17 : mLose M i 17 i = 1 := by
        rw [mLose_at, if_neg (by omega), if_neg (by omega), if_neg (by omega), if_pos ⟨rfl, rfl⟩]
      have m12 : ∀ k s, s < 29 → mLose M i 12 (29 * k + s) = if k = i then -1 else M 12 (29 * k + s) := fun k s hs => by
        rw [mLose_at]
        by_cases e : k = i
        · rw [if_pos e, if_pos ⟨rfl, by omega, by omega⟩]
        · rw [if_neg e, if_neg (by omega), if_neg (by omega), if_neg (by omega), if_neg (by omega)]
      generalize am_up (am_up (dLv D i (va M i) (vb M i)) (sd_rn i) 7 0) (sd_rn i) 6 4 = D1 at *
      generalize mLose M i = M1 at *
      have es : ∀ n j, n ≤ 20 → n ≠ 5 → D1 n j = D n j := fun n j z z5 => ed n j z5 (by unfold sd_pn; omega) (fun y => by have := y.1; unfold sd_rn at this; omega)
      have er : ∀ k j, ¬ (k = i ∧ (j = 6 ∨ j = 7)) → D1 (sd_rn k) j = D (sd_rn k) j := fun k j z => ed _ j (by unfold sd_rn; omega) (sd_ne k i) (fun y => z ⟨by have := y.1; unfold sd_rn at this; omega, y.2⟩)
      have eR : vR M1 = vR M := zvR (em 0 8 (by omega) (by omega))
      have eF : vF M (vC M) ≤ vF M1 (vC M1) := by
        rw [zvF (fun j => em 1 j (by omega) (by omega)), zvC (em 0 2 (by omega) (by omega))]
        exact Nat.le_refl _
      have mi : ∀ s, s < 29 → M1 12 (29 * i + s) = -1 := fun s hs => by rw [m12 i s hs, if_pos rfl]
      have mo : ∀ k, k ≠ i → ∀ s, s < 29 → M1 12 (29 * k + s) = M 12 (29 * k + s) := fun k hk s hs => by rw [m12 k s hs, if_neg hk]
      have hc1 : Rc L A D1 M1 none := by
        refine h.ride (h.G.c (em 0 1 (by omega) (by omega)) (em 0 2 (by omega) (by omega)) (em 0 8 (by omega) (by omega)) (em 0 17 (by omega) (by omega)) (fun j => em 1 j (by omega) (by omega))) (mGR_of h.GR eR (zvL (em 0 1 (by omega) (by omega))) (fun j => em 7 j (by omega) (by omega)) (fun j => em 8 j (by omega) (by omega))) (h.O.eq (es 0 0 (by omega) (by omega)) (es 0 4 (by omega) (by omega)) (fun j => es 12 j (by omega) (by omega)) (fun j => es 13 j (by omega) (by omega)) (fun k => ⟨er k 0 (by omega), er k 1 (by omega)⟩)) ?_ ⟨?_, fun k hk => ?_⟩ ?_ ((es 0 6 (by omega) (by omega)).trans (h.m.trans (em 0 21 (by omega) (by omega)).symm)) ?_ (fun n j _ z z5 _ => es n j (by omega) z5) (fun n j z => em n j (by omega) (by omega))
        · refine rT_new (r := i) h.T h.I.u n3 (by omega) (fun k _ => by rw [eR]) (fun k _ hn s hs => mo k hn s hs) (fun q hq s hs => ?_)
          rw [d5 q hq s hs, mi s (by omega)]
          exact ⟨fun z => Or.inl ⟨z.1, fun y => z.2 y.2⟩, fun z => z.elim (fun y => ⟨y.1, fun w => y.2 ⟨hiM, w⟩⟩) (fun y => absurd y.symm (nI_m1 (by omega)))⟩
        · rw [eR, ← h.H.1]
          unfold dR
          rw [es 0 4 (by omega) (by omega)]
        · rw [eR] at hk
          obtain ⟨f2, f3, f4, f5, f7⟩ := h.H.2 k hk
          rw [er k 2 (by omega), er k 3 (by omega), er k 4 (by omega), er k 5 (by omega), em 7 k (by omega) (by omega), em 8 k (by omega) (by omega), em 9 k (by omega) (by omega), em 10 k (by omega) (by omega)]
          refine ⟨f2, f3, f4, f5, ?_⟩
          by_cases e : k = i
          · rw [e, d7, m11]
          · rw [er k 7 (by omega), em 11 k (by omega) (by omega)]
            exact f7
        · refine rP_new (r := i) h.P n3 (fun k hk _ => by rw [← eR]; exact hk) (fun k hk hn => ⟨fun s _ => by rw [dp, if_neg (fun y => hn y.1)], fun s hs => mo k hn s hs⟩) (fun s hs => ?_)
          rw [dp, mi s (by omega)]
          by_cases hw : va M i ≤ s ∧ s < vb M i
          · rw [if_pos ⟨rfl, hw⟩]
          · rw [if_neg (fun y => hw y.2), h.P i hiM s hs]
            exact (h.I.w i hiM s (by omega)).resolve_right (fun y => hw ⟨y.1, y.2.1⟩)
        · exact rI_new (r := i) h.I (fun k hk _ => by rw [← eR]; exact hk) eF (fun q _ => zmK (fun j => em 1 j (by omega) (by omega)) (fun j => em 2 j (by omega) (by omega))) (fun k hk hn => ⟨em 6 k (by omega) (by omega), em 7 k (by omega) (by omega), em 8 k (by omega) (by omega), em 9 k (by omega) (by omega), fun s hs => mo k hn s hs⟩) (by rw [em 9 i (by omega) (by omega)]; exact h.I.cl i hiM) (Or.inr (Or.inr (Or.inr m6))) (fun s hs => Or.inl (mi s hs)) (fun s hs q hq z => by rw [mi s hs] at z; exact absurd z.symm (nI_m1 (by omega))) (fun _ => mi) (fun z => by rw [m6] at z; exact absurd z (by decide)) (fun _ => mi) (fun _ _ _ => Iff.rfl)
      obtain ⟨a1, a2, a3⟩ := lo_eq f (i + 1) D1 M1 hc1 (by omega) (by rw [zvC (em 0 2 (by omega) (by omega))]; exact hc) (fun k hk hk2 => by
        rw [er k 6 (by omega), em 6 k (by omega) (by omega)]
        exact h1 k (by omega) (by omega)) (fun k hk => by
        by_cases e : k = i
        · rw [e]
          exact Or.inr ⟨m17, d6, m6⟩
        · rw [er k 6 (by omega), em 6 k (by omega) (by omega), em 17 k (by omega) (by omega)]
          exact h2 k (by omega))
      exact ⟨a1, a2.trans eR, fun k hk => a3 k (by omega)⟩
    · rw [if_neg hz, if_neg (fun y => hz (hin.mp y))]
      have em : ∀ n j, ¬ (n = 17 ∧ j = i) → am_up M 17 i 0 n j = M n j := fun n j z => am_up_at z
      have m17 : am_up M 17 i 0 17 i = 0 := am_up_same
      generalize am_up M 17 i 0 = M1 at *
      have eR : vR M1 = vR M := zvR (em 0 8 (by omega))
      have eF : vF M (vC M) ≤ vF M1 (vC M1) := by
        rw [zvF (fun j => em 1 j (by omega)), zvC (em 0 2 (by omega))]
        exact Nat.le_refl _
      have hc1 : Rc L A D M1 none := h.ride (h.G.c (em 0 1 (by omega)) (em 0 2 (by omega)) (em 0 8 (by omega)) (em 0 17 (by omega)) (fun j => em 1 j (by omega))) (mGR_of h.GR eR (zvL (em 0 1 (by omega))) (fun j => em 7 j (by omega)) (fun j => em 8 j (by omega))) h.O (h.T.eq (fun _ _ => rfl) eR (fun k _ s _ => em 12 _ (by omega)) n3) (h.H.eq rfl (fun _ _ _ => rfl) (em 0 8 (by omega)) (fun k n z1 z2 => em n k (by omega))) (h.P.eq (fun _ _ _ _ => rfl) eR (fun k _ s _ => em 12 _ (by omega)) n3) (h.m.trans (em 0 21 (by omega)).symm) (h.I.eq eR eF (fun q _ => zmK (fun j => em 1 j (by omega)) (fun j => em 2 j (by omega))) (fun k _ => ⟨em 6 k (by omega), em 7 k (by omega), em 8 k (by omega), em 9 k (by omega), fun s _ => em 12 _ (by omega)⟩)) (fun _ _ _ _ _ _ => rfl) (fun n j z => em n j (by omega))
      obtain ⟨a1, a2, a3⟩ := lo_eq f (i + 1) D M1 hc1 (by omega) (by rw [zvC (em 0 2 (by omega))]; exact hc) (fun k hk hk2 => by
        rw [em 6 k (by omega)]
        exact h1 k (by omega) (by omega)) (fun k hk => by
        by_cases e : k = i
        · rw [e]
          exact Or.inl ⟨m17, by rw [em 6 i (by omega)]; exact h1 i hiM (Nat.le_refl _)⟩
        · rw [em 6 k (by omega), em 17 k (by omega)]
          exact h2 k (by omega))
      exact ⟨a1, a2.trans eR, fun k hk => a3 k (by omega)⟩
theorem mRcL_fr {c : Nat} : ∀ (f r : Nat) (M M' : am_D), (∀ n j, ¬ (n = 3 ∨ n = 14 ∨ n = 15 ∨ n = 16 ∨ n = 0 ∧ j = 17) → M' n j = M n j) → (∀ n j, ¬ (n = 3 ∨ n = 14 ∨ n = 15 ∨ n = 16 ∨ n = 0 ∧ j = 17) → mRcL c f r M' n j = mRcL c f r M n j) ∧ ∀ n j, (n = 3 ∨ n = 14 ∨ n = 15 ∨ n = 16 ∨ n = 0 ∧ j = 17) → mRcL c f r M' n j = M' n j
  | 0, r, M, M', h => ⟨h, fun _ _ _ => rfl⟩
  | f + 1, r, M, M', h => by
    have hin : mIn M' r c ↔ mIn M r c := by
      unfold mIn
      constructor <;> rintro ⟨s, s1, s2, s3⟩ <;> refine ⟨s, s1, ?_, ?_⟩
      · rw [h 1 c (by omega), h 12 _ (by omega)] at s2
        exact s2
      · rw [h 1 (c + 1) (by omega), h 12 _ (by omega)] at s3
        exact s3
      · rw [h 1 c (by omega), h 12 _ (by omega)]
        exact s2
      · rw [h 1 (c + 1) (by omega), h 12 _ (by omega)]
        exact s3
    unfold mRcL
    rw [hin, h 6 r (by omega)]
    by_cases hz : 0 < M 6 r ∧ mIn M r c
    · rw [if_pos hz, if_pos hz]
      obtain ⟨a1, a2⟩ := mRcL_fr (c := c) f (r + 1) (mLose M r) (mLose M' r) (fun n j z => by
        rw [mLose_at, mLose_at, h n j z])
      refine ⟨a1, fun n j z => (a2 n j z).trans ?_⟩
      rw [mLose_at, if_neg (by omega), if_neg (by omega), if_neg (by omega), if_neg (by omega)]
    · rw [if_neg hz, if_neg hz]
      obtain ⟨a1, a2⟩ := mRcL_fr (c := c) f (r + 1) (am_up M 17 r 0) (am_up M' 17 r 0) (fun n j z => by
        unfold am_up
        rw [h n j z])
      refine ⟨a1, fun n j z => (a2 n j z).trans (am_up_at (by omega))⟩
