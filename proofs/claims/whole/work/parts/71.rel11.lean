/-! ===== desk and reference: the relation ===== -/
/-- blocks are alike, in any order -/
def rB (L : Nat) (D M : am_D) : Prop := bB D = vB M ∧ (∀ P : Int32 → Int32 → Prop, am_cnt (fun i => P (D 10 i) (D 11 i)) (bB D) 0 0 = am_cnt (fun b => P (M 14 b) (wayI (M 15 b) (M 16 b))) (vB M) 0 0) ∧ ∀ b, b < vB M → ∃ q a e : Nat, q < vF M (vC M) ∧ M 14 b = nI q ∧ M 15 b = nI a ∧ M 16 b = nI e ∧ a < e ∧ e ≤ L
theorem zvB {M M' : am_D} (h : M' 0 17 = M 0 17) : vB M' = vB M := by
  unfold vB
  rw [h]
theorem zbB {D D' : am_D} (h : D' 9 2 = D 9 2) : bB D' = bB D := by
  unfold bB
  rw [h]
theorem rB.eq {L : Nat} {D D' M M' : am_D} (h : rB L D M) (h9 : D' 9 2 = D 9 2) (hD : ∀ n j, n = 10 ∨ n = 11 → D' n j = D n j) (h17 : M' 0 17 = M 0 17) (hF : vF M (vC M) ≤ vF M' (vC M')) (hM : ∀ n j, n = 14 ∨ n = 15 ∨ n = 16 → M' n j = M n j) : rB L D' M' := by
  obtain ⟨h1, h2, h3⟩ := h
  refine ⟨by rw [zbB h9, zvB h17]; exact h1, fun P => ?_, fun b hb => ?_⟩
  · rw [zbB h9, zvB h17, am_cnt_c _ _ _ (fun j _ _ => by rw [hD 10 j (by omega), hD 11 j (by omega)] : ∀ j, 0 ≤ j → j < 0 + bB D → (P (D' 10 j) (D' 11 j) ↔ P (D 10 j) (D 11 j))), h2 P]
    exact am_cnt_c _ _ _ (fun j _ _ => by rw [hM 14 j (by omega), hM 15 j (by omega), hM 16 j (by omega)])
  · rw [hM 14 b (by omega), hM 15 b (by omega), hM 16 b (by omega)]
    obtain ⟨q, a, e, z1, z2⟩ := h3 b (by rw [← zvB h17]; exact hb)
    exact ⟨q, a, e, by omega, z2⟩
/-- desk and reference tell the same; x: one who has no seat yet -/
def Rel (L A : Nat) (D M : am_D) (x : Option Nat) : Prop := mG M ∧ mGR M ∧ dO L A D ∧ sG L D ∧ bG D ∧ rS L D M ∧ rT L D M ∧ rK L D M ∧ rR D M ∧ rP L D M ∧ rQ L D M ∧ rB L D M ∧ D 0 6 = M 0 21 ∧ rI M x
theorem Rel.G {L A : Nat} {D M : am_D} {x : Option Nat} (h : Rel L A D M x) : mG M := h.1
theorem Rel.GR {L A : Nat} {D M : am_D} {x : Option Nat} (h : Rel L A D M x) : mGR M := h.2.1
theorem Rel.O {L A : Nat} {D M : am_D} {x : Option Nat} (h : Rel L A D M x) : dO L A D := h.2.2.1
theorem Rel.sg {L A : Nat} {D M : am_D} {x : Option Nat} (h : Rel L A D M x) : sG L D := h.2.2.2.1
theorem Rel.bg {L A : Nat} {D M : am_D} {x : Option Nat} (h : Rel L A D M x) : bG D := h.2.2.2.2.1
theorem Rel.S {L A : Nat} {D M : am_D} {x : Option Nat} (h : Rel L A D M x) : rS L D M := h.2.2.2.2.2.1
theorem Rel.T {L A : Nat} {D M : am_D} {x : Option Nat} (h : Rel L A D M x) : rT L D M := h.2.2.2.2.2.2.1
theorem Rel.K {L A : Nat} {D M : am_D} {x : Option Nat} (h : Rel L A D M x) : rK L D M := h.2.2.2.2.2.2.2.1
theorem Rel.R {L A : Nat} {D M : am_D} {x : Option Nat} (h : Rel L A D M x) : rR D M := h.2.2.2.2.2.2.2.2.1
theorem Rel.P {L A : Nat} {D M : am_D} {x : Option Nat} (h : Rel L A D M x) : rP L D M := h.2.2.2.2.2.2.2.2.2.1
theorem Rel.Q {L A : Nat} {D M : am_D} {x : Option Nat} (h : Rel L A D M x) : rQ L D M := h.2.2.2.2.2.2.2.2.2.2.1
theorem Rel.B {L A : Nat} {D M : am_D} {x : Option Nat} (h : Rel L A D M x) : rB L D M := h.2.2.2.2.2.2.2.2.2.2.2.1
theorem Rel.m {L A : Nat} {D M : am_D} {x : Option Nat} (h : Rel L A D M x) : D 0 6 = M 0 21 := h.2.2.2.2.2.2.2.2.2.2.2.2.1
theorem Rel.I {L A : Nat} {D M : am_D} {x : Option Nat} (h : Rel L A D M x) : rI M x := h.2.2.2.2.2.2.2.2.2.2.2.2.2
theorem rV_of {L : Nat} {D M : am_D} (hG : mG M) (hGR : mGR M) (hs : sG L D) (hR : rR D M) : rV L D M := ⟨hR.1, hG, hGR, hs.2.1, fun i hi => ⟨(hR.2 i hi).1, (hR.2 i hi).2.1, (hR.2 i hi).2.2.1⟩⟩
theorem Rel.V {L A : Nat} {D M : am_D} {x : Option Nat} (h : Rel L A D M x) : rV L D M := rV_of h.G h.GR h.sg h.R
theorem rV.W {L : Nat} {D M : am_D} (h : rV L D M) (hL : vL M = L) : dW L D := fun i hi => by
  rw [h.1] at hi
  obtain ⟨w1, w2, w3, w4, w5, w6, w7⟩ := h.w hi
  rw [w4, w5]
  exact ⟨w1, w2, w6, by omega⟩
theorem rP.Ps {L : Nat} {D M : am_D} (h : rP L D M) (hR : dR D = vR M) (hW : rW M) (hL : L ≤ 29) (h80 : vF M (vC M) ≤ 80) : dPs L D := fun i hi s hs => by
  rw [hR] at hi
  rw [h i hi s hs]
  rcases hW i hi s (by omega) with z | ⟨-, -, q, z1, z2⟩
  · exact Or.inl z
  · exact Or.inr ⟨q, by omega, z2⟩
theorem Rel.ok {L A : Nat} {D M : am_D} {x : Option Nat} (h : Rel L A D M x) : dOk L A D := ⟨h.O, h.V.W h.S.1, h.P.Ps h.R.1 h.I.w (by rw [← h.S.1]; exact h.G.2.2.1) h.G.2.2.2.2.2.2.2.2.2.2.2.2, h.sg⟩
theorem Rel.kg {L A : Nat} {D M : am_D} {x : Option Nat} (h : Rel L A D M x) : kG L D := by
  obtain ⟨s1, s2, s3, s4, s5, s6, -⟩ := h.S
  have hF : ∀ c, c ≤ vC M → D 8 c = nI (vF M c) := fun c hc => (s3 c hc).trans (h.G.2.2.2.2.2.2.2.2.2.1 c hc)
  have h80 := h.G.2.2.2.2.2.2.2.2.2.2.2.2
  have hd : ∀ c, c ≤ vC M → dF D c = vF M c := fun c hc => by
    unfold dF vF
    rw [s3 c hc]
  refine ⟨h.sg, fun c hc => ?_, fun c hc => ?_, ?_⟩
  · rw [s2] at hc
    rw [hd c hc]
    exact ⟨hF c hc, h.G.F80 hc⟩
  · rw [s2] at hc
    rw [hd c (by omega), hd (c + 1) (by omega)]
    exact h.G.mono (by omega) (by omega)
  · rw [s2, hd _ (Nat.le_refl _), s6]
    exact Nat.le_refl _
theorem Rel.n {L A : Nat} {D M : am_D} {x : Option Nat} (h : Rel L A D M x) : vL M = L ∧ 1 ≤ L ∧ L ≤ 29 ∧ vR M ≤ 150 ∧ dC D = vF M (vC M) ∧ dC D ≤ 80 ∧ dR D = vR M ∧ dK D = vC M ∧ vC M ≤ 8 := ⟨h.S.1, h.O.1, h.O.2.1, h.G.2.2.2.2.2.2.1, h.S.2.2.2.2.2.1, h.sg.2.1, h.R.1, h.S.2.1, h.G.2.2.2.2.1⟩
theorem rR.eq {D D' M M' : am_D} (h : rR D M) (h4 : D' 0 4 = D 0 4) (hr : ∀ i, i < vR M → ∀ j, 2 ≤ j → D' (sd_rn i) j = D (sd_rn i) j) (h8 : M' 0 8 = M 0 8) (hM : ∀ i, i < vR M → ∀ n, 6 ≤ n → n ≤ 11 → M' n i = M n i) : rR D' M' := by
  refine ⟨?_, fun i hi => ?_⟩
  · rw [zvR h8, ← h.1]
    unfold dR
    rw [h4]
  · rw [zvR h8] at hi
    rw [hr i hi 2 (by omega), hr i hi 3 (by omega), hr i hi 4 (by omega), hr i hi 5 (by omega), hr i hi 6 (by omega), hr i hi 7 (by omega), hM i hi 6 (by omega) (by omega), hM i hi 7 (by omega) (by omega), hM i hi 8 (by omega) (by omega), hM i hi 9 (by omega) (by omega), hM i hi 10 (by omega) (by omega), hM i hi 11 (by omega) (by omega)]
    exact h.2 i hi
theorem rP.eq {L : Nat} {D D' M M' : am_D} (h : rP L D M) (hr : ∀ i, i < vR M → ∀ j, j < L → D' (sd_pn i) j = D (sd_pn i) j) (h8 : vR M' = vR M) (hM : ∀ r, r < vR M → ∀ s, s < 29 → M' 12 (29 * r + s) = M 12 (29 * r + s)) (hL : L ≤ 29) : rP L D' M' := fun i hi s hs => by
  rw [h8] at hi
  rw [hr i hi s hs, hM i hi s (by omega)]
  exact h i hi s hs
theorem rQ.eq {L : Nat} {D D' M M' : am_D} (h : rQ L D M) (hD : ∀ n j, 14 ≤ n → n < 18 → D' n j = D n j) (hM : ∀ j, M' 5 j = M 5 j) : rQ L D' M' := fun g hg s hs => by
  rw [hD _ s (by omega) (by omega), hM]
  exact h g hg s hs
theorem mG.c {M M' : am_D} (h : mG M) (h0 : M' 0 1 = M 0 1) (h2 : M' 0 2 = M 0 2) (h8 : M' 0 8 = M 0 8) (h17 : M' 0 17 = M 0 17) (h1 : ∀ j, M' 1 j = M 1 j) : mG M' := (mG_of (R := vR M) (B := vB M) h h0 h2 (h8.trans h.2.2.2.2.2.1) h.2.2.2.2.2.2.1 (h17.trans h.2.2.2.2.2.2.2.1) h.2.2.2.2.2.2.2.2.1 h1).1
theorem Rel.c {L A : Nat} {D D' M M' : am_D} {x : Option Nat} (h : Rel L A D M x) (hD : ∀ n j, n ≠ 18 → n ≠ 19 → n ≠ 20 → ¬ (n = 5 ∧ 80 ≤ j) → D' n j = D n j) (hM : ∀ n j, n ≠ 13 → n ≠ 17 → ¬ (n = 0 ∧ j = 0) → M' n j = M n j) : Rel L A D' M' x := by
  obtain ⟨n1, n2, n3, n4, n5, n6, n7, n8, n9⟩ := h.n
  have er : ∀ i j, D' (sd_rn i) j = D (sd_rn i) j := fun i j => hD _ j (by unfold sd_rn; omega) (by unfold sd_rn; omega) (by unfold sd_rn; omega) (fun z => by have := z.1; unfold sd_rn at this; omega)
  have ep : ∀ i j, D' (sd_pn i) j = D (sd_pn i) j := fun i j => hD _ j (by unfold sd_pn; omega) (by unfold sd_pn; omega) (by unfold sd_pn; omega) (fun z => by have := z.1; unfold sd_pn at this; omega)
  have ed : ∀ n j, n < 18 → n ≠ 5 → D' n j = D n j := fun n j z1 z2 => hD n j (by omega) (by omega) (by omega) (by omega)
  have em : ∀ n j, n ≠ 13 → n ≠ 17 → n ≠ 0 → M' n j = M n j := fun n j z1 z2 z3 => hM n j z1 z2 (by omega)
  have em0 : ∀ j, j ≠ 0 → M' 0 j = M 0 j := fun j z => hM 0 j (by omega) (by omega) (by omega)
  have eF : vF M' (vC M') = vF M (vC M) := by rw [zvF (fun j => em 1 j (by omega) (by omega) (by omega)), zvC (em0 2 (by omega))]
  refine ⟨h.G.c (em0 1 (by omega)) (em0 2 (by omega)) (em0 8 (by omega)) (em0 17 (by omega)) (fun j => em 1 j (by omega) (by omega) (by omega)), mGR_of h.GR (zvR (em0 8 (by omega))) (zvL (em0 1 (by omega))) (fun j => em 7 j (by omega) (by omega) (by omega)) (fun j => em 8 j (by omega) (by omega) (by omega)), h.O.eq (ed 0 0 (by omega) (by omega)) (ed 0 4 (by omega) (by omega)) (fun j => ed 12 j (by omega) (by omega)) (fun j => ed 13 j (by omega) (by omega)) (fun i => ⟨er i 0, er i 1⟩), h.sg.eq (fun j => ed 1 j (by omega) (by omega)), h.bg.eq (ed 9 2 (by omega) (by omega)), h.S.eq (fun n j z => ed n j (by omega) (by omega)) (fun n j z => hM n j (by omega) (by omega) (by omega)), h.T.eq (fun q hq => hD 5 q (by omega) (by omega) (by omega) (by omega)) (zvR (em0 8 (by omega))) (fun r _ s _ => em 12 _ (by omega) (by omega) (by omega)) (by omega), h.K.eq (ed 1 1 (by omega) (by omega)) (fun q => ed 2 q (by omega) (by omega)) (fun q => ed 6 q (by omega) (by omega)) (em0 17 (by omega)) (fun n j z => em n j (by omega) (by omega) (by omega)), h.R.eq (ed 0 4 (by omega) (by omega)) (fun i _ j _ => er i j) (em0 8 (by omega)) (fun i _ n z1 z2 => em n i (by omega) (by omega) (by omega)), h.P.eq (fun i _ j _ => ep i j) (zvR (em0 8 (by omega))) (fun r _ s _ => em 12 _ (by omega) (by omega) (by omega)) (by omega), h.Q.eq (fun n j z1 z2 => ed n j (by omega) (by omega)) (fun j => em 5 j (by omega) (by omega) (by omega)), h.B.eq (ed 9 2 (by omega) (by omega)) (fun n j z => ed n j (by omega) (by omega)) (em0 17 (by omega)) (Nat.le_of_eq eF.symm) (fun n j z => em n j (by omega) (by omega) (by omega)), (ed 0 6 (by omega) (by omega)).trans (h.m.trans (em0 21 (by omega)).symm), h.I.eq (zvR (em0 8 (by omega))) (Nat.le_of_eq eF.symm) (fun q _ => zmK (fun j => em 1 j (by omega) (by omega) (by omega)) (fun j => em 2 j (by omega) (by omega) (by omega))) (fun r _ => ⟨em 6 r (by omega) (by omega) (by omega), em 7 r (by omega) (by omega) (by omega), em 8 r (by omega) (by omega) (by omega), em 9 r (by omega) (by omega) (by omega), fun s _ => em 12 _ (by omega) (by omega) (by omega)⟩)⟩
theorem Rel.mT {L A : Nat} {D M : am_D} {x : Option Nat} (h : Rel L A D M x) : Rel L A D (mT M) x := h.c (fun _ _ _ _ _ _ => rfl) (fun n j _ _ z => mT_ne z)
/-- a ride's row is written anew -/
theorem rI_put {M : am_D} {r : Nat} {g : Nat → Int32} {x y : Option Nat} (h : rI M x) (hr : r < vR M) (hg : ∀ s, s < 29 → g s = -1 ∨ (va M r ≤ s ∧ s < vb M r ∧ ∃ q, q < vF M (vC M) ∧ g s = nI q)) (hu : ∀ s, s < 29 → ∀ q, q < 80 → g s = nI q → ∀ r', r' < vR M → r' ≠ r → ¬ M 12 (29 * r' + s) = nI q) (h0 : M 6 r = 0 ∨ M 6 r = 3 → ∀ s, s < 29 → g s = -1) (h1 : M 6 r = 1 → ¬ some r = y → ∃ q, q < vF M (vC M) ∧ mK M q = M 9 r ∧ ∀ s, s < 29 → va M r ≤ s → s < vb M r → g s = nI q) (hy : some r = y → ∀ s, s < 29 → g s = -1) (hxy : ∀ r', r' < vR M → r' ≠ r → (some r' = y ↔ some r' = x)) : rI (mPut M r 29 g) y := by
  have eF : vF (mPut M r 29 g) (vC (mPut M r 29 g)) = vF M (vC M) := by
    rw [zvF (fun j => mPut_ne (by omega)), zvC (mPut_ne (by omega))]
  have eK : ∀ q, mK (mPut M r 29 g) q = mK M q := fun q => zmK (fun j => mPut_ne (by omega)) (fun j => mPut_ne (by omega))
  have ea : ∀ z, va (mPut M r 29 g) z = va M z := fun z => zva (mPut_ne (by omega))
  have eb : ∀ z, vb (mPut M r 29 g) z = vb M z := fun z => zvb (mPut_ne (by omega))
  refine ⟨fun i hi => ?_, fun i hi => ?_, fun i hi s hs => ?_, rU_put h.u hu, fun i hi z s hs => ?_, fun i hi z hx => ?_, fun i hi z s hs => ?_⟩ <;> rw [vR_put] at hi
  · rw [mPut_ne (by omega)]
    exact h.st i hi
  · rw [mPut_ne (by omega)]
    exact h.cl i hi
  · rw [mPut_row hs, ea, eb, eF]
    by_cases he : i = r
    · rw [if_pos he, he]
      exact hg s hs
    · rw [if_neg he]
      exact h.w i hi s hs
  · rw [mPut_ne (by omega)] at z
    rw [mPut_row hs]
    by_cases he : i = r
    · rw [if_pos he]
      rw [he] at z
      exact h0 z s hs
    · rw [if_neg he]
      exact h.no i hi z s hs
  · rw [mPut_ne (by omega)] at z
    rw [ea, eb, eF, mPut_ne (by omega)]
    by_cases he : i = r
    · subst he
      obtain ⟨q, y1, y0, y2⟩ := h1 z hx
      exact ⟨q, y1, by rw [eK]; exact y0, fun s hs s1 s2 => by rw [mPut_row hs, if_pos rfl]; exact y2 s hs s1 s2⟩
    · obtain ⟨q, y1, y0, y2⟩ := h.mv i hi z (fun e => hx ((hxy i hi he).mpr e))
      exact ⟨q, y1, by rw [eK]; exact y0, fun s hs s1 s2 => by rw [mPut_row hs, if_neg he]; exact y2 s hs s1 s2⟩
  · rw [mPut_row hs]
    by_cases he : i = r
    · rw [if_pos he]
      rw [he] at z
      exact hy z s hs
    · rw [if_neg he]
      exact h.x0 i hi ((hxy i hi he).mp z) s hs
theorem rI_sit {M : am_D} {r q : Nat} {x : Option Nat} (h : rI M x) (hx : x = none ∨ x = some r) (hr : r < vR M) (hGR : mGR M) (hL : vL M ≤ 29) (h150 : vR M ≤ 150) (hq : q < vF M (vC M)) (h80 : vF M (vC M) ≤ 80) (h6 : M 6 r = 1 ∨ M 6 r = 2) (hk : M 6 r = 1 → mK M q = M 9 r) (hf : ∀ s, va M r ≤ s → s < vb M r → ∀ r', r' < vR M → r' ≠ r → ¬ M 12 (29 * r' + s) = nI q) : rI (mSit M r (nI q)) none := by
  have eg : ∀ s, s < 29 → mSitG M r (nI q) s = if va M r ≤ s ∧ s < vb M r then nI q else -1 := fun s hs => mSitG_e hGR hL hr hs
  refine rI_put h hr (fun s hs => ?_) (fun s hs q' hq' hg r' hr' hn => ?_) (fun z => ?_) (fun z _ => ⟨q, hq, hk z, fun s hs s1 s2 => by rw [eg s hs, if_pos ⟨s1, s2⟩]⟩) (fun z => absurd z (by simp)) (fun r' _ hn => ?_)
  · rw [eg s hs]
    by_cases hz : va M r ≤ s ∧ s < vb M r
    · rw [if_pos hz]
      exact Or.inr ⟨hz.1, hz.2, q, hq, rfl⟩
    · rw [if_neg hz]
      exact Or.inl rfl
  · rw [eg s hs] at hg
    by_cases hz : va M r ≤ s ∧ s < vb M r
    · rw [if_pos hz] at hg
      rw [← hg]
      exact hf s hz.1 hz.2 r' hr' hn
    · rw [if_neg hz] at hg
      exact absurd hg.symm (nI_m1 (by omega))
  · rcases h6 with h6 | h6 <;> rw [h6] at z <;> exact absurd z (by decide)
  · rcases hx with rfl | rfl
    · exact Iff.rfl
    · exact ⟨fun z => absurd z (by simp), fun z => absurd (Option.some.inj z) hn⟩
theorem dSit_pn {D : am_D} {i a b r s q : Nat} (hq : q < 80) : dSit D i (nI q) a b (sd_pn r) s = if r = i ∧ a ≤ s ∧ s < b then nI q else D (sd_pn r) s := by
  unfold dSit
  rw [if_neg (nI_m1 (by omega)), am_up_at (fun z => by have := z.1; unfold sd_pn at this; omega)]
  by_cases h : r = i
  · subst h
    rw [dPl_at]
    by_cases hz : a ≤ s ∧ s < b
    · rw [if_pos hz, if_pos ⟨rfl, hz⟩]
    · rw [if_neg hz, if_neg (fun y => hz y.2)]
  · rw [dPl_ne (sd_pp h), if_neg (fun y => h y.1)]
theorem ft_no {M : am_D} {r q a b : Nat} (h150 : vR M ≤ 150) (hr : r < vR M) (hf : mFT M (nI q) a b (nI r)) : ∀ s, a ≤ s → s < b → ∀ r', r' < vR M → r' ≠ r → ¬ M 12 (29 * r' + s) = nI q := fun s s1 s2 r' hr' hn e => (hf s s1 s2).2 r' hr' ⟨by rw [nI_inji (by omega) (by omega)]; exact hn, e⟩
/-- place -/
theorem place_eq {L r : Nat} {D M : am_D} (hS : rS L D M) (hT : rT L D M) (hK : rK L D M) (hV : rV L D M) (hP : rP L D M) (hI : rI M (some r)) (hq : ∀ i, i < vR M → (D (sd_rn i) 6 = 1 ↔ M 6 i = 1)) (h6 : D 0 6 = M 0 21) (hr : r < vR M) (hr1 : M 6 r = 1) : (dPlace L D r).2 = (mPlace M r).2 ∧ rT L (dPlace L D r).1 (mPlace M r).1 ∧ rP L (dPlace L D r).1 (mPlace M r).1 ∧ (dPlace L D r).1 0 6 = (mPlace M r).1 0 21 ∧ ((mPlace M r).2 = true → rI (mPlace M r).1 none) ∧ (¬ (mPlace M r).2 = true → rI (mPlace M r).1 (some r) ∧ ∀ j, (mPlace M r).1 12 j = M 12 j) := by
  have h150 : vR M ≤ 150 := hV.2.1.2.2.2.2.2.2.1
  have hL29 := hV.2.1.2.2.1
  have h80 := hV.2.2.2.1
  have hCC : dC D = vF M (vC M) := hS.2.2.2.2.2.1
  have h0 := hI.x0 r hr rfl
  have ht := hI.cl r hr
  have hb := bst_eq hS hT hK hV hr ht h0
  obtain ⟨w1, w2, w3, w4, w5, w6, w7⟩ := hV.w hr
  unfold dPlace mPlace
  rw [hb, w3, w4, w5]
  rcases mBest_s (M := M) (a := va M r) (b := vb M r) (t := M 9 r) (one := nI r) with h1 | ⟨q, hqq, h1, hcl, hft⟩
  · rw [h1, if_pos rfl, if_pos (by decide)]
    exact sweep_eq ht hS hT hK hV hP hI hq h6 (fun i hi => by rw [nI_inji (by omega) (by omega)]; simp) (fun i hi _ => by
      obtain rfl := Option.some.inj hi
      exact ⟨hr1, rfl⟩)
  · rw [h1, if_neg (nI_m1 (by omega)), if_neg (nI_pos (by omega))]
    refine ⟨rfl, ?_, ?_, ?_, fun _ => rI_sit hI (Or.inr rfl) hr hV.2.2.1 hL29 h150 hqq (by omega) (Or.inl hr1) (fun _ => hcl.2) (ft_no h150 hr hft), fun z => absurd rfl z⟩
    · exact sit_T hT hI.u hV hS.1 hr h0 (by omega) (fun q' s => dSit_bt (by omega) (by omega) (by omega))
    · intro i hi s hs
      rw [show vR (mSit M r (nI q), true).1 = vR M from vR_put] at hi
      have hL := hS.1
      show dSit D r (nI q) (va M r) (vb M r) (sd_pn i) s = mSit M r (nI q) 12 (29 * i + s)
      rw [dSit_pn (by omega), mSit_row hV.2.2.1 hL29 hr (by omega), hP i hi s hs]
      by_cases he : i = r
      · subst he
        rw [if_pos rfl, h0 s (by omega)]
        by_cases hz : va M i ≤ s ∧ s < vb M i
        · rw [if_pos hz, if_pos ⟨rfl, hz⟩]
        · rw [if_neg hz, if_neg (fun y => hz y.2)]
      · rw [if_neg he, if_neg (fun y => he y.1)]
    · exact (dSit_ne (by omega) (by unfold sd_pn; omega)).trans (h6.trans (show mSit M r (nI q) 0 21 = M 0 21 from mPut_ne (by omega)).symm)
