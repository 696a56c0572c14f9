/-! ===== desk and reference: a coach is taken out ===== -/
/-- the rides' words but their states -/
def rH (D M : am_D) : Prop := dR D = vR M ∧ ∀ i, i < vR M → D (sd_rn i) 2 = M 7 i ∧ D (sd_rn i) 3 = M 8 i ∧ D (sd_rn i) 4 = M 9 i ∧ D (sd_rn i) 5 = M 10 i ∧ D (sd_rn i) 7 = M 11 i
/-- the relation but for the states -/
def Rc (L A : Nat) (D M : am_D) (x : Option Nat) : Prop := mG M ∧ mGR M ∧ dO L A D ∧ sG L D ∧ bG D ∧ rS L D M ∧ rT L D M ∧ rK L D M ∧ rH D M ∧ rP L D M ∧ rQ L D M ∧ rB L D M ∧ D 0 6 = M 0 21 ∧ rI M x
theorem Rc.G {L A : Nat} {D M : am_D} {x : Option Nat} (h : Rc L A D M x) : mG M := h.1
theorem Rc.GR {L A : Nat} {D M : am_D} {x : Option Nat} (h : Rc L A D M x) : mGR M := h.2.1
theorem Rc.O {L A : Nat} {D M : am_D} {x : Option Nat} (h : Rc L A D M x) : dO L A D := h.2.2.1
theorem Rc.sg {L A : Nat} {D M : am_D} {x : Option Nat} (h : Rc L A D M x) : sG L D := h.2.2.2.1
theorem Rc.bg {L A : Nat} {D M : am_D} {x : Option Nat} (h : Rc L A D M x) : bG D := h.2.2.2.2.1
theorem Rc.S {L A : Nat} {D M : am_D} {x : Option Nat} (h : Rc L A D M x) : rS L D M := h.2.2.2.2.2.1
theorem Rc.T {L A : Nat} {D M : am_D} {x : Option Nat} (h : Rc L A D M x) : rT L D M := h.2.2.2.2.2.2.1
theorem Rc.K {L A : Nat} {D M : am_D} {x : Option Nat} (h : Rc L A D M x) : rK L D M := h.2.2.2.2.2.2.2.1
theorem Rc.H {L A : Nat} {D M : am_D} {x : Option Nat} (h : Rc L A D M x) : rH D M := h.2.2.2.2.2.2.2.2.1
theorem Rc.P {L A : Nat} {D M : am_D} {x : Option Nat} (h : Rc L A D M x) : rP L D M := h.2.2.2.2.2.2.2.2.2.1
theorem Rc.Q {L A : Nat} {D M : am_D} {x : Option Nat} (h : Rc L A D M x) : rQ L D M := h.2.2.2.2.2.2.2.2.2.2.1
theorem Rc.B {L A : Nat} {D M : am_D} {x : Option Nat} (h : Rc L A D M x) : rB L D M := h.2.2.2.2.2.2.2.2.2.2.2.1
theorem Rc.m {L A : Nat} {D M : am_D} {x : Option Nat} (h : Rc L A D M x) : D 0 6 = M 0 21 := h.2.2.2.2.2.2.2.2.2.2.2.2.1
theorem Rc.I {L A : Nat} {D M : am_D} {x : Option Nat} (h : Rc L A D M x) : rI M x := h.2.2.2.2.2.2.2.2.2.2.2.2.2
theorem Rel.Rc {L A : Nat} {D M : am_D} {x : Option Nat} (h : Rel L A D M x) : Rc L A D M x := ⟨h.G, h.GR, h.O, h.sg, h.bg, h.S, h.T, h.K, ⟨h.R.1, fun i hi => ⟨(h.R.2 i hi).1, (h.R.2 i hi).2.1, (h.R.2 i hi).2.2.1, (h.R.2 i hi).2.2.2.1, (h.R.2 i hi).2.2.2.2.2⟩⟩, h.P, h.Q, h.B, h.m, h.I⟩
theorem Rc.Rel {L A : Nat} {D M : am_D} {x : Option Nat} (h : Rc L A D M x) (h6 : ∀ i, i < vR M → D (sd_rn i) 6 = M 6 i) : Rel L A D M x := ⟨h.G, h.GR, h.O, h.sg, h.bg, h.S, h.T, h.K, ⟨h.H.1, fun i hi => ⟨(h.H.2 i hi).1, (h.H.2 i hi).2.1, (h.H.2 i hi).2.2.1, (h.H.2 i hi).2.2.2.1, h6 i hi, (h.H.2 i hi).2.2.2.2⟩⟩, h.P, h.Q, h.B, h.m, h.I⟩
theorem Rc.V {L A : Nat} {D M : am_D} {x : Option Nat} (h : Rc L A D M x) : rV L D M := ⟨h.H.1, h.G, h.GR, h.sg.2.1, fun i hi => ⟨(h.H.2 i hi).1, (h.H.2 i hi).2.1, (h.H.2 i hi).2.2.1⟩⟩
theorem Rc.n {L A : Nat} {D M : am_D} {x : Option Nat} (h : Rc L A D M x) : vL M = L ∧ 1 ≤ L ∧ L ≤ 29 ∧ vR M ≤ 150 ∧ dC D = vF M (vC M) ∧ dC D ≤ 80 ∧ dR D = vR M ∧ dK D = vC M ∧ vC M ≤ 8 := ⟨h.S.1, h.O.1, h.O.2.1, h.G.2.2.2.2.2.2.1, h.S.2.2.2.2.2.1, h.sg.2.1, h.H.1, h.S.2.1, h.G.2.2.2.2.1⟩
theorem Rc.ride {L A A' : Nat} {D D' M M' : am_D} {x y : Option Nat} (h : Rc L A D M x) (hG : mG M') (hGR : mGR M') (hO : dO L A' D') (hT : rT L D' M') (hH : rH D' M') (hP : rP L D' M') (hm : D' 0 6 = M' 0 21) (hI : rI M' y) (ed : ∀ n j, 1 ≤ n → n ≤ 17 → n ≠ 5 → n ≠ 12 → D' n j = D n j) (em : ∀ n j, n = 0 ∧ (j = 1 ∨ j = 2 ∨ j = 17) ∨ 1 ≤ n ∧ n ≤ 5 ∨ 14 ≤ n ∧ n ≤ 16 → M' n j = M n j) : Rc L A' D' M' y := by
  have eF : vF M' (vC M') = vF M (vC M) := by rw [zvF (fun j => em 1 j (by omega)), zvC (em 0 2 (by omega))]
  exact ⟨hG, hGR, hO, h.sg.eq (fun j => ed 1 j (by omega) (by omega) (by omega) (by omega)), h.bg.eq (ed 9 2 (by omega) (by omega) (by omega) (by omega)), h.S.eq (fun n j z => ed n j (by omega) (by omega) (by omega) (by omega)) (fun n j z => em n j (by omega)), hT, h.K.eq (ed 1 1 (by omega) (by omega) (by omega) (by omega)) (fun q => ed 2 q (by omega) (by omega) (by omega) (by omega)) (fun q => ed 6 q (by omega) (by omega) (by omega) (by omega)) (em 0 17 (by omega)) (fun n j z => em n j (by omega)), hH, hP, h.Q.eq (fun n j z1 z2 => ed n j (by omega) (by omega) (by omega) (by omega)) (fun j => em 5 j (by omega)), h.B.eq (ed 9 2 (by omega) (by omega) (by omega) (by omega)) (fun n j z => ed n j (by omega) (by omega) (by omega) (by omega)) (em 0 17 (by omega)) (Nat.le_of_eq eF.symm) (fun n j z => em n j (by omega)), hm, hI⟩
theorem rH.eq {D D' M M' : am_D} (h : rH D M) (h4 : D' 0 4 = D 0 4) (hr : ∀ i j, j ≠ 6 → D' (sd_rn i) j = D (sd_rn i) j) (h8 : M' 0 8 = M 0 8) (hM : ∀ i n, 7 ≤ n → n ≤ 11 → M' n i = M n i) : rH D' M' := by
  refine ⟨?_, fun i hi => ?_⟩
  · rw [zvR h8, ← h.1]
    unfold dR
    rw [h4]
  · rw [zvR h8] at hi
    rw [hr i 2 (by omega), hr i 3 (by omega), hr i 4 (by omega), hr i 5 (by omega), hr i 7 (by omega), hM i 7 (by omega) (by omega), hM i 8 (by omega) (by omega), hM i 9 (by omega) (by omega), hM i 10 (by omega) (by omega), hM i 11 (by omega) (by omega)]
    exact h.2 i hi
/-- the state of one who has no seat -/
theorem st_I {M M' : am_D} {r : Nat} {x y : Option Nat} (h : rI M x) (hr : r < vR M) (h0 : ∀ s, s < 29 → M 12 (29 * r + s) = -1) (em : ∀ n j, n ≠ 17 → n ≠ 13 → n ≠ 11 → ¬ (n = 0 ∧ j = 21) → ¬ (n = 6 ∧ j = r) → n ≠ 12 → M' n j = M n j) (e12 : ∀ k s, s < 29 → M' 12 (29 * k + s) = M 12 (29 * k + s)) (hst : M' 6 r = 0 ∨ M' 6 r = 1 ∨ M' 6 r = 2 ∨ M' 6 r = 3) (hy : M' 6 r = 1 → some r = y) (hxy : ∀ r', r' < vR M → r' ≠ r → (some r' = y ↔ some r' = x)) : rI M' y := by
  have eR : vR M' = vR M := zvR (em 0 8 (by omega) (by omega) (by omega) (by omega) (by omega) (by omega))
  have eF : vF M (vC M) ≤ vF M' (vC M') := by
    rw [zvF (fun j => em 1 j (by omega) (by omega) (by omega) (by omega) (by omega) (by omega)), zvC (em 0 2 (by omega) (by omega) (by omega) (by omega) (by omega) (by omega))]
    exact Nat.le_refl _
  have mi : ∀ s, s < 29 → M' 12 (29 * r + s) = -1 := fun s hs => (e12 r s hs).trans (h0 s hs)
  exact rI_new (r := r) h (fun k hk _ => by rw [← eR]; exact hk) eF (fun q _ => zmK (fun j => em 1 j (by omega) (by omega) (by omega) (by omega) (by omega) (by omega)) (fun j => em 2 j (by omega) (by omega) (by omega) (by omega) (by omega) (by omega))) (fun k hk hn => ⟨em 6 k (by omega) (by omega) (by omega) (by omega) (by omega) (by omega), em 7 k (by omega) (by omega) (by omega) (by omega) (by omega) (by omega), em 8 k (by omega) (by omega) (by omega) (by omega) (by omega) (by omega), em 9 k (by omega) (by omega) (by omega) (by omega) (by omega) (by omega), fun s hs => e12 k s hs⟩) (by rw [em 9 r (by omega) (by omega) (by omega) (by omega) (by omega) (by omega)]; exact h.cl r hr) hst (fun s hs => Or.inl (mi s hs)) (fun s hs q hq z => by rw [mi s hs] at z; exact absurd z.symm (nI_m1 (by omega))) (fun _ => mi) (fun z w => absurd (hy z) w) (fun _ => mi) hxy
/-- rides without a seat are seated anew -/
theorem sa_eq {L A : Nat} : ∀ (f i n : Nat) (D M : am_D), Rc L A D M none → i + f = vR M → (∀ k, k < vR M → k < i ∨ M 17 k = 0 → D (sd_rn k) 6 = M 6 k) → (∀ k, k < vR M → i ≤ k → ¬ M 17 k = 0 → D (sd_rn k) 6 = 4 ∧ M 6 k = 3) → (dSaF L f i n D).1 = (mRcP f i n M).1 ∧ Rel L A (dSaF L f i n D).2 (mRcP f i n M).2 none
  | 0, i, n, D, M, h, hi, h1, _ => ⟨rfl, h.Rel (fun k hk => h1 k hk (Or.inl (by omega)))⟩
  | f + 1, i, n, D, M, h, hi, h1, h2 => by
    obtain ⟨n1, n2, n3, n4, n5, n6, n7, n8, n9⟩ := h.n
    have hiM : i < vR M := by omega
    unfold dSaF mRcP
    by_cases h17 : M 17 i = 0
    · have h4 : ¬ D (sd_rn i) 6 = 4 := by
        rw [h1 i hiM (Or.inr h17)]
        rcases h.I.st i hiM with z | z | z | z <;> rw [z] <;> decide
      rw [if_neg h4, if_pos h17]
      exact sa_eq f (i + 1) n D M h (by omega) (fun k hk z => by
        by_cases e : k = i
        · rw [e]
          exact h1 i hiM (Or.inr h17)
        · exact h1 k hk (z.imp (fun y => by omega) id)) (fun k hk z1 z2 => h2 k hk (by omega) z2)
    · obtain ⟨h4, h3⟩ := h2 i hiM (Nat.le_refl _) h17
      rw [if_pos h4, if_neg h17]
      have h0 := h.I.no i hiM (Or.inr h3)
      have ed : ∀ n j, ¬ (n = sd_rn i ∧ j = 6) → am_up D (sd_rn i) 6 1 n j = D n j := fun n j z => am_up_at z
      have d6 : am_up D (sd_rn i) 6 1 (sd_rn i) 6 = 1 := am_up_same
      have em : ∀ n j, ¬ (n = 6 ∧ j = i) → am_up M 6 i 1 n j = M n j := fun n j z => am_up_at z
      have m6 : am_up M 6 i 1 6 i = 1 := am_up_same
      generalize am_up D (sd_rn i) 6 1 = D1 at *
      generalize am_up M 6 i 1 = M1 at *
      have es : ∀ n j, n ≤ 20 → D1 n j = D n j := fun n j z => ed n j (fun y => by have := y.1; unfold sd_rn at this; omega)
      have ep : ∀ k j, D1 (sd_pn k) j = D (sd_pn k) j := fun k j => ed _ j (fun y => sd_ne i k y.1.symm)
      have eR1 : vR M1 = vR M := zvR (em 0 8 (by omega))
      have hI1 : rI M1 (some i) := st_I (r := i) h.I hiM h0 (fun n j _ _ _ _ z _ => em n j z) (fun k s _ => em 12 _ (by omega)) (Or.inr (Or.inl m6)) (fun _ => rfl) (fun k hk hn => ⟨fun z => absurd (Option.some.inj z) hn, fun z => absurd z (by simp)⟩)
      have hc1 : Rc L A D1 M1 (some i) := h.ride (h.G.c (em 0 1 (by omega)) (em 0 2 (by omega)) (em 0 8 (by omega)) (em 0 17 (by omega)) (fun j => em 1 j (by omega))) (mGR_of h.GR eR1 (zvL (em 0 1 (by omega))) (fun j => em 7 j (by omega)) (fun j => em 8 j (by omega))) (h.O.eq (es 0 0 (by omega)) (es 0 4 (by omega)) (fun j => es 12 j (by omega)) (fun j => es 13 j (by omega)) (fun k => ⟨ed _ 0 (by omega), ed _ 1 (by omega)⟩)) (h.T.eq (fun q _ => es 5 q (by omega)) eR1 (fun k _ s _ => em 12 _ (by omega)) n3) (h.H.eq (es 0 4 (by omega)) (fun k j z => ed _ j (fun y => z y.2)) (em 0 8 (by omega)) (fun k n z1 z2 => em n k (by omega))) (h.P.eq (fun k _ j _ => ep k j) eR1 (fun k _ s _ => em 12 _ (by omega)) n3) ((es 0 6 (by omega)).trans (h.m.trans (em 0 21 (by omega)).symm)) hI1 (fun n j _ z _ _ => es n j (by omega)) (fun n j z => em n j (by omega))
      have hq : ∀ k, k < vR M1 → (D1 (sd_rn k) 6 = 1 ↔ M1 6 k = 1) := fun k hk => by
        by_cases e : k = i
        · rw [e, d6, m6]
        · rw [ed _ 6 (fun y => sd_rr e y.1), em 6 k (by omega)]
          by_cases hz : k < i ∨ M 17 k = 0
          · rw [h1 k (by omega) hz]
          · obtain ⟨y1, y2⟩ := h2 k (by omega) (by omega) (fun y => hz (Or.inr y))
            rw [y1, y2]
            decide
      obtain ⟨c1, c2, c3, c4, c5, c6⟩ := place_eq hc1.S hc1.T hc1.K hc1.V hc1.P hI1 hq hc1.m (show i < vR M1 by omega) m6
      obtain ⟨p1, p2, p3, p4, p5⟩ := mPlace.all (r := i) hc1.G hc1.GR
      have hE : dE2 D1 (dPlace L D1 i).1 := dPlace_e2
      have pm : ∀ n j, n ≠ 12 → n ≠ 13 → ¬ (n = 0 ∧ j = 21) → (mPlace M1 i).1 n j = M1 n j := fun n j => mPlace_at
      have hH2 : rH (dPlace L D1 i).1 (mPlace M1 i).1 := hc1.H.eq (hE.s (by omega) (by omega) (by omega) (by omega)) (fun k j _ => hE.rn k j) (pm 0 8 (by omega) (by omega) (by omega)) (fun k n z1 z2 => pm n k (by omega) (by omega) (by omega))
      rw [c1]
      by_cases hok : (mPlace M1 i).2 = true
      · rw [if_pos hok, if_pos hok]
        have hc2 : Rc L A (dPlace L D1 i).1 (mPlace M1 i).1 none := hc1.ride p1 p2 (hE.O hc1.O) c2 hH2 c3 c4 (c5 hok) (fun n j z1 z2 z3 _ => hE.s (by omega) (by omega) (by omega) (by omega)) (fun n j z => pm n j (by omega) (by omega) (by omega))
        refine sa_eq f (i + 1) n _ _ hc2 (by omega) (fun k hk z => ?_) (fun k hk z1 z2 => ?_)
        · rw [hE.rn, pm 6 k (by omega) (by omega) (by omega)]
          rw [pm 17 k (by omega) (by omega) (by omega), em 17 k (by omega)] at z
          by_cases e : k = i
          · rw [e, d6, m6]
          · rw [ed _ 6 (fun y => sd_rr e y.1), em 6 k (by omega)]
            exact h1 k (by omega) (z.imp (fun y => by omega) id)
        · rw [pm 17 k (by omega) (by omega) (by omega), em 17 k (by omega)] at z2
          rw [hE.rn, pm 6 k (by omega) (by omega) (by omega), ed _ 6 (fun y => sd_rr (show k ≠ i by omega) y.1), em 6 k (by omega)]
          exact h2 k (by omega) (by omega) z2
      · rw [if_neg hok, if_neg hok]
        obtain ⟨g1, g2⟩ := c6 hok
        have hc2 : Rc L A (dPlace L D1 i).1 (mPlace M1 i).1 (some i) := hc1.ride p1 p2 (hE.O hc1.O) c2 hH2 c3 c4 g1 (fun n j z1 z2 z3 _ => hE.s (by omega) (by omega) (by omega) (by omega)) (fun n j z => pm n j (by omega) (by omega) (by omega))
        have hx0 := g1.x0 i (by omega) rfl
        have ed3 : ∀ n j, ¬ (n = sd_rn i ∧ j = 6) → am_up (dPlace L D1 i).1 (sd_rn i) 6 3 n j = (dPlace L D1 i).1 n j := fun n j z => am_up_at z
        have d63 : am_up (dPlace L D1 i).1 (sd_rn i) 6 3 (sd_rn i) 6 = 3 := am_up_same
        have em3 : ∀ n j, n ≠ 12 → ¬ (n = 6 ∧ j = i) → mStd (am_up (mPlace M1 i).1 6 i 3) i n j = (mPlace M1 i).1 n j := fun n j z1 z2 => (mStd_ne z1).trans (am_up_at z2)
        have m63 : mStd (am_up (mPlace M1 i).1 6 i 3) i 6 i = 3 := (mStd_ne (by omega)).trans am_up_same
        have r3 : ∀ k s, s < 29 → mStd (am_up (mPlace M1 i).1 6 i 3) i 12 (29 * k + s) = (mPlace M1 i).1 12 (29 * k + s) := fun k s hs => by
          rw [mStd_row hs]
          by_cases e : k = i
          · rw [if_pos e, e]
            exact (hx0 s hs).symm
          · rw [if_neg e, am_up_at (by omega)]
        generalize am_up (dPlace L D1 i).1 (sd_rn i) 6 3 = D3 at *
        generalize mStd (am_up (mPlace M1 i).1 6 i 3) i = M3 at *
        have es3 : ∀ n j, n ≤ 20 → D3 n j = (dPlace L D1 i).1 n j := fun n j z => ed3 n j (fun y => by have := y.1; unfold sd_rn at this; omega)
        have ep3 : ∀ k j, D3 (sd_pn k) j = (dPlace L D1 i).1 (sd_pn k) j := fun k j => ed3 _ j (fun y => sd_ne i k y.1.symm)
        have eR3 : vR M3 = vR (mPlace M1 i).1 := zvR (em3 0 8 (by omega) (by omega))
        have hI3 : rI M3 none := st_I (r := i) g1 (by omega) hx0 (fun n j _ _ _ _ z1 z2 => em3 n j z2 z1) (fun k s hs => r3 k s hs) (Or.inr (Or.inr (Or.inr m63))) (fun z => by rw [m63] at z; exact absurd z (by decide)) (fun k hk hn => ⟨fun z => absurd z (by simp), fun z => absurd (Option.some.inj z) hn⟩)
        have hc3 : Rc L A D3 M3 none := hc2.ride (hc2.G.c (em3 0 1 (by omega) (by omega)) (em3 0 2 (by omega) (by omega)) (em3 0 8 (by omega) (by omega)) (em3 0 17 (by omega) (by omega)) (fun j => em3 1 j (by omega) (by omega))) (mGR_of hc2.GR eR3 (zvL (em3 0 1 (by omega) (by omega))) (fun j => em3 7 j (by omega) (by omega)) (fun j => em3 8 j (by omega) (by omega))) (hc2.O.eq (es3 0 0 (by omega)) (es3 0 4 (by omega)) (fun j => es3 12 j (by omega)) (fun j => es3 13 j (by omega)) (fun k => ⟨ed3 _ 0 (by omega), ed3 _ 1 (by omega)⟩)) (hc2.T.eq (fun q _ => es3 5 q (by omega)) eR3 (fun k _ s hs => r3 k s hs) n3) (hc2.H.eq (es3 0 4 (by omega)) (fun k j z => ed3 _ j (fun y => z y.2)) (em3 0 8 (by omega) (by omega)) (fun k n z1 z2 => em3 n k (by omega) (by omega))) (hc2.P.eq (fun k _ j _ => ep3 k j) eR3 (fun k _ s hs => r3 k s hs) n3) ((es3 0 6 (by omega)).trans (hc2.m.trans (em3 0 21 (by omega) (by omega)).symm)) hI3 (fun n j _ z _ _ => es3 n j (by omega)) (fun n j z => em3 n j (by omega) (by omega))
        refine sa_eq f (i + 1) (n + 1) _ _ hc3 (by omega) (fun k hk z => ?_) (fun k hk z1 z2 => ?_)
        · rw [em3 17 k (by omega) (by omega), pm 17 k (by omega) (by omega) (by omega), em 17 k (by omega)] at z
          by_cases e : k = i
          · rw [e, d63, m63]
          · rw [ed3 _ 6 (fun y => sd_rr e y.1), em3 6 k (by omega) (by omega), hE.rn, pm 6 k (by omega) (by omega) (by omega), ed _ 6 (fun y => sd_rr e y.1), em 6 k (by omega)]
            exact h1 k (by omega) (z.imp (fun y => by omega) id)
        · rw [em3 17 k (by omega) (by omega), pm 17 k (by omega) (by omega) (by omega), em 17 k (by omega)] at z2
          have e : k ≠ i := by omega
          rw [ed3 _ 6 (fun y => sd_rr e y.1), em3 6 k (by omega) (by omega), hE.rn, pm 6 k (by omega) (by omega) (by omega), ed _ 6 (fun y => sd_rr e y.1), em 6 k (by omega)]
          exact h2 k (by omega) (by omega) z2
