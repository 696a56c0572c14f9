/-! ===== desk and reference: print, cancel, shorten ===== -/
theorem rI_new {M M' : am_D} {r : Nat} {x y : Option Nat} (h : rI M x) (hR : ∀ i, i < vR M' → i ≠ r → i < vR M) (hF : vF M (vC M) ≤ vF M' (vC M')) (hK : ∀ q, q < vF M (vC M) → mK M' q = mK M q) (hM : ∀ i, i < vR M → i ≠ r → M' 6 i = M 6 i ∧ M' 7 i = M 7 i ∧ M' 8 i = M 8 i ∧ M' 9 i = M 9 i ∧ ∀ s, s < 29 → M' 12 (29 * i + s) = M 12 (29 * i + s)) (h9 : dCl (M' 9 r)) (hst : M' 6 r = 0 ∨ M' 6 r = 1 ∨ M' 6 r = 2 ∨ M' 6 r = 3) (hw : ∀ s, s < 29 → M' 12 (29 * r + s) = -1 ∨ (va M' r ≤ s ∧ s < vb M' r ∧ ∃ q, q < vF M' (vC M') ∧ M' 12 (29 * r + s) = nI q)) (hu : ∀ s, s < 29 → ∀ q, q < 80 → M' 12 (29 * r + s) = nI q → ∀ r', r' < vR M → r' ≠ r → ¬ M 12 (29 * r' + s) = nI q) (h0 : M' 6 r = 0 ∨ M' 6 r = 3 → ∀ s, s < 29 → M' 12 (29 * r + s) = -1) (h1 : M' 6 r = 1 → ¬ some r = y → ∃ q, q < vF M' (vC M') ∧ mK M' q = M' 9 r ∧ ∀ s, s < 29 → va M' r ≤ s → s < vb M' r → M' 12 (29 * r + s) = nI q) (hy : some r = y → ∀ s, s < 29 → M' 12 (29 * r + s) = -1) (hxy : ∀ r', r' < vR M → r' ≠ r → (some r' = y ↔ some r' = x)) : rI M' y := by
  have ea : ∀ i, i < vR M → i ≠ r → va M' i = va M i := fun i z1 z2 => zva (hM i z1 z2).2.1
  have eb : ∀ i, i < vR M → i ≠ r → vb M' i = vb M i := fun i z1 z2 => zvb (hM i z1 z2).2.2.1
  refine ⟨fun i hi => ?_, fun i hi => ?_, fun i hi s hs => ?_, fun r1 r2 s q z1 z2 hs hq z3 z4 => ?_, fun i hi z s hs => ?_, fun i hi z hx => ?_, fun i hi z s hs => ?_⟩
  · by_cases he : i = r
    · rw [he]
      exact hst
    · rw [(hM i (hR i hi he) he).1]
      exact h.st i (hR i hi he)
  · by_cases he : i = r
    · rw [he]
      exact h9
    · rw [(hM i (hR i hi he) he).2.2.2.1]
      exact h.cl i (hR i hi he)
  · by_cases he : i = r
    · rw [he]
      exact hw s hs
    · rw [(hM i (hR i hi he) he).2.2.2.2 s hs, ea i (hR i hi he) he, eb i (hR i hi he) he]
      exact (h.w i (hR i hi he) s hs).imp id (fun z => ⟨z.1, z.2.1, z.2.2.imp (fun q y => ⟨by omega, y.2⟩)⟩)
  · by_cases e1 : r1 = r
    · by_cases e2 : r2 = r
      · omega
      · rw [e1] at z3
        rw [(hM r2 (hR r2 z2 e2) e2).2.2.2.2 s hs] at z4
        exact absurd z4 (hu s hs q hq z3 r2 (hR r2 z2 e2) e2)
    · rw [(hM r1 (hR r1 z1 e1) e1).2.2.2.2 s hs] at z3
      by_cases e2 : r2 = r
      · rw [e2] at z4
        exact absurd z3 (hu s hs q hq z4 r1 (hR r1 z1 e1) e1)
      · rw [(hM r2 (hR r2 z2 e2) e2).2.2.2.2 s hs] at z4
        exact h.u r1 r2 s q (hR r1 z1 e1) (hR r2 z2 e2) hs hq z3 z4
  · by_cases he : i = r
    · rw [he] at z ⊢
      exact h0 z s hs
    · rw [(hM i (hR i hi he) he).1] at z
      rw [(hM i (hR i hi he) he).2.2.2.2 s hs]
      exact h.no i (hR i hi he) z s hs
  · by_cases he : i = r
    · subst he
      exact h1 z hx
    · have hi' := hR i hi he
      rw [(hM i hi' he).1] at z
      obtain ⟨q, y1, y0, y2⟩ := h.mv i hi' z (fun e => hx ((hxy i hi' he).mpr e))
      exact ⟨q, by omega, by rw [hK q y1, (hM i hi' he).2.2.2.1]; exact y0, fun s hs s1 s2 => by
        rw [ea i hi' he] at s1
        rw [eb i hi' he] at s2
        rw [(hM i hi' he).2.2.2.2 s hs]
        exact y2 s hs s1 s2⟩
  · by_cases he : i = r
    · rw [he] at z ⊢
      exact hy z s hs
    · rw [(hM i (hR i hi he) he).2.2.2.2 s hs]
      exact h.x0 i (hR i hi he) ((hxy i (hR i hi he) he).mp z) s hs
theorem rT_new {L r : Nat} {D D' M M' : am_D} (hT : rT L D M) (hU : rU M) (hL : L ≤ 29) (hr : r < vR M') (hR : ∀ i, i ≠ r → (i < vR M' ↔ i < vR M)) (hM : ∀ i, i < vR M → i ≠ r → ∀ s, s < 29 → M' 12 (29 * i + s) = M 12 (29 * i + s)) (hb : ∀ q, q < 80 → ∀ s, s < L → (bt (D' 5 q) s ↔ (bt (D 5 q) s ∧ ¬ (r < vR M ∧ M 12 (29 * r + s) = nI q)) ∨ M' 12 (29 * r + s) = nI q)) : rT L D' M' := by
  intro q hq s hs
  rw [hb q hq s hs, hT q hq s hs]
  constructor
  · rintro (⟨⟨r', h1, h2⟩, h3⟩ | h)
    · have hne : r' ≠ r := fun z => h3 (by rw [← z]; exact ⟨h1, h2⟩)
      refine ⟨r', (hR r' hne).mpr h1, ?_⟩
      rw [hM r' h1 hne s (by omega)]
      exact h2
    · exact ⟨r, hr, h⟩
  · rintro ⟨r', h1, h2⟩
    by_cases h : r' = r
    · rw [h] at h2
      exact Or.inr h2
    · have h1' := (hR r' h).mp h1
      rw [hM r' h1' h s (by omega)] at h2
      exact Or.inl ⟨⟨r', h1', h2⟩, fun z => h (hU r' r s q h1' z.1 (by omega) (by omega) h2 z.2)⟩
theorem rR_new {D D' M M' : am_D} {r : Nat} (h : rR D M) (hR : dR D' = vR M') (hR' : ∀ i, i < vR M' → i ≠ r → i < vR M) (hi : ∀ i, i < vR M → i ≠ r → (∀ j, D' (sd_rn i) j = D (sd_rn i) j) ∧ ∀ n, 6 ≤ n → n ≤ 11 → M' n i = M n i) (hr : D' (sd_rn r) 2 = M' 7 r ∧ D' (sd_rn r) 3 = M' 8 r ∧ D' (sd_rn r) 4 = M' 9 r ∧ D' (sd_rn r) 5 = M' 10 r ∧ D' (sd_rn r) 6 = M' 6 r ∧ D' (sd_rn r) 7 = M' 11 r) : rR D' M' := by
  refine ⟨hR, fun i z => ?_⟩
  by_cases he : i = r
  · rw [he]
    exact hr
  · have hi' := hR' i z he
    obtain ⟨a, b⟩ := hi i hi' he
    rw [a, a, a, a, a, a, b 6 (by omega) (by omega), b 7 (by omega) (by omega), b 8 (by omega) (by omega), b 9 (by omega) (by omega), b 10 (by omega) (by omega), b 11 (by omega) (by omega)]
    exact h.2 i hi'
theorem rP_new {L : Nat} {D D' M M' : am_D} {r : Nat} (h : rP L D M) (hL : L ≤ 29) (hR' : ∀ i, i < vR M' → i ≠ r → i < vR M) (hi : ∀ i, i < vR M → i ≠ r → (∀ s, s < L → D' (sd_pn i) s = D (sd_pn i) s) ∧ ∀ s, s < 29 → M' 12 (29 * i + s) = M 12 (29 * i + s)) (hr : ∀ s, s < L → D' (sd_pn r) s = M' 12 (29 * r + s)) : rP L D' M' := fun i z s hs => by
  by_cases he : i = r
  · rw [he]
    exact hr s hs
  · have hi' := hR' i z he
    rw [(hi i hi' he).1 s hs, (hi i hi' he).2 s (by omega)]
    exact h i hi' s hs
theorem print_eq {L A : Nat} {D M : am_D} {r : Int32} (h : Rel L A D M none) : (dPrint D r).1 = (mPrint M r).1 ∧ Rel L A (dPrint D r).2 (mPrint M r).2 none := by
  have h' := h.mT
  obtain ⟨n1, n2, n3, n4, n5, n6, n7, n8, n9⟩ := h'.n
  have hm : ∀ n j, n ≠ 0 → mT M n j = M n j := fun n j z => mT_ne (fun y => z y.1)
  have hl := liv_eq (r := r) h'.R h'.I.st h'.O.2.2.2.1 h'.G.2.2.2.2.2.1 n4
  unfold dPrint mPrint
  rw [hl]
  by_cases h1 : mLiv (mT M) r
  · obtain ⟨i, rfl, hi, hi2, hi3⟩ := mLiv_e h'.G h1
    obtain ⟨f2, f3, f4, f5, f6, f7⟩ := h'.R.2 i hi
    rw [hi2, f6, f7, hm 6 i (by omega), hm 11 i (by omega)]
    by_cases h2 : M 6 i = 3 ∨ ¬ M 11 i = 0
    · rw [if_pos (Or.inr h2), if_pos (Or.inr h2)]
      exact ⟨rfl, h'⟩
    · have hn : ¬ (¬ mLiv (mT M) (nI i) ∨ M 6 i = 3 ∨ ¬ M 11 i = 0) := fun z => z.elim (fun y => y h1) h2
      rw [if_neg hn, if_neg hn]
      refine ⟨rfl, ?_⟩
      show Rel L A (am_up (am_up D (sd_rn i) 6 2) (sd_rn i) 7 1) (am_up (am_up (mT M) 6 i 2) 11 i 1) none
      have ed : ∀ n j, ¬ (n = sd_rn i ∧ (j = 6 ∨ j = 7)) → am_up (am_up D (sd_rn i) 6 2) (sd_rn i) 7 1 n j = D n j := fun n j z => by
        rw [am_up_at (fun y => z ⟨y.1, Or.inr y.2⟩), am_up_at (fun y => z ⟨y.1, Or.inl y.2⟩)]
      have em : ∀ n j, ¬ (j = i ∧ (n = 6 ∨ n = 11)) → am_up (am_up (mT M) 6 i 2) 11 i 1 n j = mT M n j := fun n j z => by
        rw [am_up_at (fun y => z ⟨y.2, Or.inr y.1⟩), am_up_at (fun y => z ⟨y.2, Or.inl y.1⟩)]
      have d6 : am_up (am_up D (sd_rn i) 6 2) (sd_rn i) 7 1 (sd_rn i) 6 = 2 := by
        rw [am_up_at (fun y => absurd y.2 (by decide)), am_up_same]
      have d7 : am_up (am_up D (sd_rn i) 6 2) (sd_rn i) 7 1 (sd_rn i) 7 = 1 := am_up_same
      have m6 : am_up (am_up (mT M) 6 i 2) 11 i 1 6 i = 2 := by
        rw [am_up_at (fun y => absurd y.1 (by decide)), am_up_same]
      have m11 : am_up (am_up (mT M) 6 i 2) 11 i 1 11 i = 1 := am_up_same
      generalize am_up (am_up D (sd_rn i) 6 2) (sd_rn i) 7 1 = D' at *
      generalize am_up (am_up (mT M) 6 i 2) 11 i 1 = M' at *
      have es : ∀ n j, n ≤ 20 → D' n j = D n j := fun n j z => ed n j (fun y => by have := y.1; unfold sd_rn at this; omega)
      have ep : ∀ k j, D' (sd_pn k) j = D (sd_pn k) j := fun k j => ed _ j (fun y => sd_ne i k y.1.symm)
      have e12 : ∀ k s, M' 12 (29 * k + s) = mT M 12 (29 * k + s) := fun k s => em 12 _ (by omega)
      have eR : vR M' = vR (mT M) := zvR (em 0 8 (by omega))
      have eF : vF (mT M) (vC (mT M)) ≤ vF M' (vC M') := by
        rw [zvF (fun j => em 1 j (by omega)), zvC (em 0 2 (by omega))]
        exact Nat.le_refl _
      have ea : ∀ k, va M' k = va (mT M) k := fun k => zva (em 7 k (by omega))
      have eb : ∀ k, vb M' k = vb (mT M) k := fun k => zvb (em 8 k (by omega))
      refine h'.ride (h'.G.c (em 0 1 (by omega)) (em 0 2 (by omega)) (em 0 8 (by omega)) (em 0 17 (by omega)) (fun j => em 1 j (by omega))) (mGR_of h'.GR eR (zvL (em 0 1 (by omega))) (fun j => em 7 j (by omega)) (fun j => em 8 j (by omega))) (h'.O.eq (es 0 0 (by omega)) (es 0 4 (by omega)) (fun j => es 12 j (by omega)) (fun j => es 13 j (by omega)) (fun k => ⟨ed _ 0 (by omega), ed _ 1 (by omega)⟩)) (h'.T.eq (fun q _ => es 5 q (by omega)) eR (fun k _ s _ => e12 k s) n3) ?_ (h'.P.eq (fun k _ j _ => ep k j) eR (fun k _ s _ => e12 k s) n3) ((es 0 6 (by omega)).trans (h'.m.trans (em 0 21 (by omega)).symm)) ?_ (fun n j _ z _ _ => es n j (by omega)) (fun n j z => em n j (by omega))
      · refine rR_new (r := i) h'.R ?_ (fun k hk _ => by rw [← eR]; exact hk) (fun k hk hn => ⟨fun j => ed _ j (fun y => sd_rr hn y.1), fun n _ _ => em n k (fun y => hn y.1)⟩) ⟨?_, ?_, ?_, ?_, ?_, ?_⟩
        · rw [eR, ← h'.R.1]
          unfold dR
          rw [es 0 4 (by omega)]
        · rw [ed _ 2 (by omega), em 7 i (by omega)]
          exact f2
        · rw [ed _ 3 (by omega), em 8 i (by omega)]
          exact f3
        · rw [ed _ 4 (by omega), em 9 i (by omega)]
          exact f4
        · rw [ed _ 5 (by omega), em 10 i (by omega)]
          exact f5
        · rw [d6, m6]
        · rw [d7, m11]
      · refine rI_new (r := i) h'.I (fun k hk _ => by rw [← eR]; exact hk) eF (fun q _ => zmK (fun j => em 1 j (by omega)) (fun j => em 2 j (by omega))) (fun k hk hn => ⟨em 6 k (by omega), em 7 k (by omega), em 8 k (by omega), em 9 k (by omega), fun s _ => e12 k s⟩) (by rw [em 9 i (by omega)]; exact h'.I.cl i hi) (Or.inr (Or.inr (Or.inl m6))) (fun s hs => ?_) (fun s hs q hq z r' hr' hn y => ?_) (fun z => by rw [m6] at z; exact absurd z (by decide)) (fun z => by rw [m6] at z; exact absurd z (by decide)) (fun z => absurd z (by simp)) (fun _ _ _ => Iff.rfl)
        · rw [e12, ea, eb]
          exact (h'.I.w i hi s hs).imp id (fun z => ⟨z.1, z.2.1, z.2.2.imp (fun q y => ⟨by omega, y.2⟩)⟩)
        · rw [e12] at z
          exact hn (h'.I.u r' i s q hr' hi hs hq y z)
  · rw [if_pos (Or.inl h1), if_pos (Or.inl h1)]
    exact ⟨rfl, h'⟩
theorem dLv_pn {D : am_D} {i a b k s : Nat} : dLv D i a b (sd_pn k) s = if k = i ∧ a ≤ s ∧ s < b then -1 else D (sd_pn k) s := by
  have e : ∀ x y, dLvF i (b - a) a D (sd_pn x) y = D (sd_pn x) y := fun x y => dLvF_ne _ _ _ _ _ (by unfold sd_pn; omega)
  unfold dLv
  by_cases h : k = i
  · subst h
    rw [dPl_at, e]
    by_cases hz : a ≤ s ∧ s < b
    · rw [if_pos hz, if_pos ⟨rfl, hz⟩]
    · rw [if_neg hz, if_neg (fun y => hz y.2)]
  · rw [dPl_ne (sd_pp h), e, if_neg (fun y => h y.1)]
/-- leaving the seats of the whole way -/
theorem lv_bt {L A i q s : Nat} {D M : am_D} {x : Option Nat} (h : Rel L A D M x) (hi : i < vR M) (hq : q < 80) (hs : s < L) : bt (dLv D i (va M i) (vb M i) 5 q) s ↔ bt (D 5 q) s ∧ ¬ M 12 (29 * i + s) = nI q := by
  obtain ⟨n1, n2, n3, n4, n5, n6, n7, n8, n9⟩ := h.n
  obtain ⟨w1, w2, w3, w4, w5, w6, w7⟩ := h.V.w hi
  have hps : ∀ u, u < L → D (sd_pn i) u = -1 ∨ ∃ q, q < 80 ∧ D (sd_pn i) u = nI q := h.ok.2.2.1 i (by omega)
  rw [dLv_bt (fun u u1 u2 => hps u (by omega)) (by omega) (by omega) hq (by omega)]
  refine ⟨fun z => ⟨z.1, fun y => ?_⟩, fun z => ⟨z.1, fun y => z.2 ?_⟩⟩
  · rcases h.I.w i hi s (by omega) with e | ⟨e1, e2, -⟩
    · rw [e] at y
      exact nI_m1 (by omega) y.symm
    · exact z.2 ⟨e1, e2, by rw [h.P i hi s hs]; exact y⟩
  · rw [← h.P i hi s hs]
    exact y.2.2
theorem cancel_eq {L A : Nat} {D M : am_D} {r : Int32} (h : Rel L A D M none) : (dCancel D r).1 = (mCancel M r).1 ∧ Rel L A (dCancel D r).2 (mCancel M r).2 none := by
  have h' := h.mT
  obtain ⟨n1, n2, n3, n4, n5, n6, n7, n8, n9⟩ := h'.n
  have hl := liv_eq (r := r) h'.R h'.I.st h'.O.2.2.2.1 h'.G.2.2.2.2.2.1 n4
  unfold dCancel mCancel
  rw [hl]
  by_cases h1 : mLiv (mT M) r
  · rw [if_pos h1, if_pos h1]
    obtain ⟨i, rfl, hi, hi2, hi3⟩ := mLiv_e h'.G h1
    obtain ⟨f2, f3, f4, f5, f6, f7⟩ := h'.R.2 i hi
    obtain ⟨w1, w2, w3, w4, w5, w6, w7⟩ := h'.V.w hi
    rw [hi2, w4, w5]
    refine ⟨rfl, ?_⟩
    show Rel L A (am_up (dLv D i (va (mT M) i) (vb (mT M) i)) (sd_rn i) 6 0) (mStd (am_up (mT M) 6 i 0) i) none
    have ed : ∀ n j, n ≠ 5 → n ≠ sd_pn i → ¬ (n = sd_rn i ∧ j = 6) → am_up (dLv D i (va (mT M) i) (vb (mT M) i)) (sd_rn i) 6 0 n j = D n j := fun n j z1 z2 z3 => by
      rw [am_up_at z3, dLv_ne z1 z2]
    have d5 : ∀ q, q < 80 → ∀ s, s < L → (bt (am_up (dLv D i (va (mT M) i) (vb (mT M) i)) (sd_rn i) 6 0 5 q) s ↔ bt (D 5 q) s ∧ ¬ mT M 12 (29 * i + s) = nI q) := fun q hq s hs => by
      rw [am_up_at (fun y => by have := y.1; unfold sd_rn at this; omega)]
      exact lv_bt h' hi hq hs
    have dp : ∀ k s, am_up (dLv D i (va (mT M) i) (vb (mT M) i)) (sd_rn i) 6 0 (sd_pn k) s = if k = i ∧ va (mT M) i ≤ s ∧ s < vb (mT M) i then -1 else D (sd_pn k) s := fun k s => by
      rw [am_up_at (fun y => sd_ne i k y.1.symm), dLv_pn]
    have d6 : am_up (dLv D i (va (mT M) i) (vb (mT M) i)) (sd_rn i) 6 0 (sd_rn i) 6 = 0 := am_up_same
    have em : ∀ n j, n ≠ 12 → ¬ (n = 6 ∧ j = i) → mStd (am_up (mT M) 6 i 0) i n j = mT M n j := fun n j z1 z2 => by
      unfold mStd
      rw [mPut_ne z1, am_up_at z2]
    have m6 : mStd (am_up (mT M) 6 i 0) i 6 i = 0 := by
      unfold mStd
      rw [mPut_ne (by omega), am_up_same]
    have m12 : ∀ k s, s < 29 → mStd (am_up (mT M) 6 i 0) i 12 (29 * k + s) = if k = i then -1 else mT M 12 (29 * k + s) := fun k s hs => by
      unfold mStd
      rw [mPut_row hs, am_up_at (fun y => absurd y.1 (by decide))]
      rfl
    generalize am_up (dLv D i (va (mT M) i) (vb (mT M) i)) (sd_rn i) 6 0 = D' at *
    generalize mStd (am_up (mT M) 6 i 0) i = M' at *
    have es : ∀ n j, n ≤ 20 → n ≠ 5 → D' n j = D n j := fun n j z z5 => ed n j z5 (by unfold sd_pn; omega) (fun y => by have := y.1; unfold sd_rn at this; omega)
    have er : ∀ k j, ¬ (k = i ∧ j = 6) → D' (sd_rn k) j = D (sd_rn k) j := fun k j z => ed _ j (by unfold sd_rn; omega) (sd_ne k i) (fun y => z ⟨by have := y.1; unfold sd_rn at this; omega, y.2⟩)
    have eR : vR M' = vR (mT M) := zvR (em 0 8 (by omega) (by omega))
    have eF : vF (mT M) (vC (mT M)) ≤ vF M' (vC M') := by
      rw [zvF (fun j => em 1 j (by omega) (by omega)), zvC (em 0 2 (by omega) (by omega))]
      exact Nat.le_refl _
    have mi : ∀ s, s < 29 → M' 12 (29 * i + s) = -1 := fun s hs => by rw [m12 i s hs, if_pos rfl]
    have mo : ∀ k, k ≠ i → ∀ s, s < 29 → M' 12 (29 * k + s) = mT M 12 (29 * k + s) := fun k hk s hs => by rw [m12 k s hs, if_neg hk]
    refine h'.ride (h'.G.c (em 0 1 (by omega) (by omega)) (em 0 2 (by omega) (by omega)) (em 0 8 (by omega) (by omega)) (em 0 17 (by omega) (by omega)) (fun j => em 1 j (by omega) (by omega))) (mGR_of h'.GR eR (zvL (em 0 1 (by omega) (by omega))) (fun j => em 7 j (by omega) (by omega)) (fun j => em 8 j (by omega) (by omega))) (h'.O.eq (es 0 0 (by omega) (by omega)) (es 0 4 (by omega) (by omega)) (fun j => es 12 j (by omega) (by omega)) (fun j => es 13 j (by omega) (by omega)) (fun k => ⟨er k 0 (by omega), er k 1 (by omega)⟩)) ?_ ?_ ?_ ((es 0 6 (by omega) (by omega)).trans (h'.m.trans (em 0 21 (by omega) (by omega)).symm)) ?_ (fun n j _ z z5 _ => es n j (by omega) z5) (fun n j z => em n j (by omega) (by omega))
    · refine rT_new (r := i) h'.T h'.I.u n3 (by omega) (fun k _ => by rw [eR]) (fun k _ hn s hs => mo k hn s hs) (fun q hq s hs => ?_)
      rw [d5 q hq s hs, mi s (by omega)]
      exact ⟨fun z => Or.inl ⟨z.1, fun y => z.2 y.2⟩, fun z => z.elim (fun y => ⟨y.1, fun w => y.2 ⟨hi, w⟩⟩) (fun y => absurd y.symm (nI_m1 (by omega)))⟩
    · refine rR_new (r := i) h'.R ?_ (fun k hk _ => by rw [← eR]; exact hk) (fun k hk hn => ⟨fun j => er k j (fun y => hn y.1), fun n _ _ => em n k (by omega) (fun y => hn y.2)⟩) ⟨?_, ?_, ?_, ?_, ?_, ?_⟩
      · rw [eR, ← h'.R.1]
        unfold dR
        rw [es 0 4 (by omega) (by omega)]
      · rw [er i 2 (by omega), em 7 i (by omega) (by omega)]
        exact f2
      · rw [er i 3 (by omega), em 8 i (by omega) (by omega)]
        exact f3
      · rw [er i 4 (by omega), em 9 i (by omega) (by omega)]
        exact f4
      · rw [er i 5 (by omega), em 10 i (by omega) (by omega)]
        exact f5
      · rw [d6, m6]
      · rw [er i 7 (by omega), em 11 i (by omega) (by omega)]
        exact f7
    · refine rP_new (r := i) h'.P n3 (fun k hk _ => by rw [← eR]; exact hk) (fun k hk hn => ⟨fun s _ => by rw [dp, if_neg (fun y => hn y.1)], fun s hs => mo k hn s hs⟩) (fun s hs => ?_)
      rw [dp, mi s (by omega)]
      by_cases hz : va (mT M) i ≤ s ∧ s < vb (mT M) i
      · rw [if_pos ⟨rfl, hz⟩]
      · rw [if_neg (fun y => hz y.2), h'.P i hi s hs]
        exact (h'.I.w i hi s (by omega)).resolve_right (fun y => hz ⟨y.1, y.2.1⟩)
    · exact rI_new (r := i) h'.I (fun k hk _ => by rw [← eR]; exact hk) eF (fun q _ => zmK (fun j => em 1 j (by omega) (by omega)) (fun j => em 2 j (by omega) (by omega))) (fun k hk hn => ⟨em 6 k (by omega) (by omega), em 7 k (by omega) (by omega), em 8 k (by omega) (by omega), em 9 k (by omega) (by omega), fun s hs => mo k hn s hs⟩) (by rw [em 9 i (by omega) (by omega)]; exact h'.I.cl i hi) (Or.inl m6) (fun s hs => Or.inl (mi s hs)) (fun s hs q hq z => by rw [mi s hs] at z; exact absurd z.symm (nI_m1 (by omega))) (fun _ => mi) (fun z => by rw [m6] at z; exact absurd z (by decide)) (fun _ => mi) (fun _ _ _ => Iff.rfl)
  · rw [if_neg h1, if_neg h1]
    exact ⟨rfl, h'⟩
