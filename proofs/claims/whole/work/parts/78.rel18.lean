/-! ===== desk and reference: bookChanges ===== -/
theorem dSit_join {D : am_D} {i q a u b : Nat} (hq : q < 80) (hau : a ≤ u) (hub : u ≤ b) (hb : b ≤ 29) : dSit (dSit D i (nI q) a u) i (nI q) u b = dSit D i (nI q) a b := by
  have hq1 : ¬ nI q = -1 := nI_m1 (by omega)
  funext n j
  by_cases h5 : n = 5
  · subst h5
    unfold dSit
    rw [if_neg hq1, if_neg hq1, if_neg hq1, nI_clamp (n := q) (by omega)]
    by_cases hj : j = q
    · subst hj
      rw [am_up_same, am_up_same, am_up_same]
      refine bt_ext (fun s hs => ?_)
      rw [bt_orw hub hb, bt_orw hau (by omega), bt_orw (by omega) hb]
      constructor
      · rintro ((z | z) | z)
        · exact Or.inl z
        · exact Or.inr (by omega)
        · exact Or.inr (by omega)
      · rintro (z | z)
        · exact Or.inl (Or.inl z)
        · rcases Nat.lt_or_ge s u with w | w
          · exact Or.inl (Or.inr (by omega))
          · exact Or.inr (by omega)
    · rw [am_up_at (fun z => hj z.2), am_up_at (fun z => hj z.2), dPl_ne (by unfold sd_pn; omega), am_up_at (fun z => hj z.2), dPl_ne (by unfold sd_pn; omega), dPl_ne (by unfold sd_pn; omega)]
  · by_cases hp : n = sd_pn i
    · subst hp
      rw [dSit_pn hq, dSit_pn hq, dSit_pn hq]
      by_cases z1 : u ≤ j ∧ j < b
      · rw [if_pos ⟨rfl, z1⟩, if_pos ⟨rfl, by omega, by omega⟩]
      · rw [if_neg (fun w => z1 w.2)]
        by_cases z2 : a ≤ j ∧ j < u
        · rw [if_pos ⟨rfl, z2⟩, if_pos ⟨rfl, by omega, by omega⟩]
        · rw [if_neg (fun w => z2 w.2), if_neg (fun w => by omega)]
    · rw [dSit_ne h5 hp, dSit_ne h5 hp, dSit_ne h5 hp]
theorem one_free {D : am_D} {q s : Nat} (hs : s < 29) : dFree D q (wayI (nI s) (nI (s + 1))) ↔ ¬ bt (D 5 q) s ∧ ¬ bt (D 6 q) s := by
  unfold dFree
  rw [way_free (by omega) (by omega)]
  constructor
  · intro h
    have := h s (by omega) (by omega)
    rw [bt_or] at this
    exact ⟨fun z => this (Or.inl z), fun z => this (Or.inr z)⟩
  · intro h u u1 u2
    rw [show u = s by omega, bt_or]
    exact fun z => z.elim h.1 h.2
theorem dBcF_s {L i f s : Nat} {t p : Int32} {D : am_D} : dBcF L i t (f + 1) s p D = dBcF L i t f (s + 1) (dBcP L D t s p) (dSit D i (dBcP L D t s p) s (s + 1)) := rfl
theorem bc_run {L i q s0 : Nat} {t : Int32} {D : am_D} {p : Int32} (hq : q < 80) (hL : L ≤ 29) (hp : dBcP L D t s0 p = nI q) : ∀ (n f : Nat), s0 + (n + 1) ≤ L → (∀ u, s0 < u → u < s0 + (n + 1) → ¬ bt (D 5 q) u ∧ ¬ bt (D 6 q) u) → dBcF L i t (n + 1 + f) s0 p D = dBcF L i t f (s0 + (n + 1)) (nI q) (dSit D i (nI q) s0 (s0 + (n + 1)))
  | 0, f, hn, _ => by
    rw [show 0 + 1 + f = f + 1 by omega]
    rw [dBcF_s, hp]
  | n + 1, f, hn, hu => by
    have ih := bc_run (i := i) hq hL hp n (f + 1) (by omega) (fun u u1 u2 => hu u u1 (by omega))
    rw [show n + 1 + 1 + f = n + 1 + (f + 1) by omega, ih]
    have hfr := hu (s0 + (n + 1)) (by omega) (by omega)
    have hP : dBcP L (dSit D i (nI q) s0 (s0 + (n + 1))) t (s0 + (n + 1)) (nI q) = nI q := by
      unfold dBcP
      rw [if_neg]
      rintro (z | z)
      · exact nI_m1 (by omega) z
      · rw [nI_clamp (n := q) (by omega), one_free (by omega)] at z
        refine z ⟨?_, ?_⟩
        · rw [dSit_bt (by omega) (by omega) hq]
          rintro (w | w)
          · exact hfr.1 w
          · omega
        · rw [dSit_ne (by omega) (by unfold sd_pn; omega)]
          exact hfr.2
    rw [dBcF_s, hP, dSit_join hq (by omega) (by omega) (by omega), show s0 + (n + 1) + 1 = s0 + (n + 1 + 1) by omega]
theorem mFill_row {M : am_D} {r a u k s : Nat} {x : Int32} (hs : s < 29) (hu : u ≤ 29) : mFill M r a u x 12 (29 * k + s) = if k = r ∧ a ≤ s ∧ s < u then x else M 12 (29 * k + s) := by
  unfold mFill
  by_cases h : k = r ∧ a ≤ s ∧ s < u
  · rw [if_pos h, if_pos ⟨rfl, by omega, by omega⟩]
  · rw [if_neg h, if_neg (fun z => h (by omega))]
theorem rI.none {M : am_D} {r : Nat} (h : rI M (some r)) (h6 : ¬ M 6 r = 1) : rI M none := ⟨h.st, h.cl, h.w, h.u, h.no, fun k hk z _ => h.mv k hk z (fun w => h6 (by rw [← Option.some.inj w]; exact z)), fun k hk z => absurd z (by simp)⟩
theorem Rel.x {L A : Nat} {D M : am_D} {x y : Option Nat} (h : Rel L A D M x) (hI : rI M y) : Rel L A D M y := ⟨h.G, h.GR, h.O, h.sg, h.bg, h.S, h.T, h.K, h.R, h.P, h.Q, h.B, h.m, hI⟩
/-- a free run is taken by a fixed ride -/
theorem fill_rel {L A r q a n : Nat} {D M : am_D} (h : Rel L A D M none) (hr : r < vR M) (h6 : M 6 r = 2) (hq : q < dC D) (ha : va M r ≤ a) (hn : a + n ≤ vb M r) (h0 : ∀ s, a ≤ s → s < 29 → M 12 (29 * r + s) = -1) (hf : ∀ s, a ≤ s → s < a + n → mFr M (nI q) s (-1)) : Rel L A (dSit D r (nI q) a (a + n)) (mFill M r a (a + n) (nI q)) none := by
  obtain ⟨n1, n2, n3, n4, n5, n6, n7, n8, n9⟩ := h.n
  obtain ⟨w1, w2, w3, w4, w5, w6, w7⟩ := h.V.w hr
  have hE : dE2 D (dSit D r (nI q) a (a + n)) := dSit_e2
  have em : ∀ k j, k ≠ 12 → mFill M r a (a + n) (nI q) k j = M k j := fun k j z => mFill_ne z
  have row : ∀ k s, s < 29 → mFill M r a (a + n) (nI q) 12 (29 * k + s) = if k = r ∧ a ≤ s ∧ s < a + n then nI q else M 12 (29 * k + s) := fun k s hs => mFill_row hs (by omega)
  have d5 : ∀ q' s, bt (dSit D r (nI q) a (a + n) 5 q') s ↔ bt (D 5 q') s ∨ (q' = q ∧ a ≤ s ∧ s < a + n) := fun q' s => dSit_bt (by omega) (by omega) (by omega)
  have dp : ∀ k s, dSit D r (nI q) a (a + n) (sd_pn k) s = if k = r ∧ a ≤ s ∧ s < a + n then nI q else D (sd_pn k) s := fun k s => dSit_pn (by omega)
  have d06 : dSit D r (nI q) a (a + n) 0 6 = D 0 6 := dSit_ne (by omega) (by unfold sd_pn; omega)
  generalize dSit D r (nI q) a (a + n) = D' at *
  generalize mFill M r a (a + n) (nI q) = M' at *
  have eR : vR M' = vR M := zvR (em 0 8 (by omega))
  have mo : ∀ k, k ≠ r → ∀ s, s < 29 → M' 12 (29 * k + s) = M 12 (29 * k + s) := fun k hk s hs => by rw [row k s hs, if_neg (fun z => hk z.1)]
  have eF : vF M (vC M) ≤ vF M' (vC M') := by
    rw [zvF (fun j => em 1 j (by omega)), zvC (em 0 2 (by omega))]
    exact Nat.le_refl _
  refine h.ride (h.G.c (em 0 1 (by omega)) (em 0 2 (by omega)) (em 0 8 (by omega)) (em 0 17 (by omega)) (fun j => em 1 j (by omega))) (mGR_of h.GR eR (zvL (em 0 1 (by omega))) (fun j => em 7 j (by omega)) (fun j => em 8 j (by omega))) (hE.O h.O) ?_ (h.R.eq (hE.s (by omega) (by omega) (by omega) (by omega)) (fun i _ j _ => hE.rn i j) (em 0 8 (by omega)) (fun i _ k z1 z2 => em k i (by omega))) ?_ (d06.trans (h.m.trans (em 0 21 (by omega)).symm)) ?_ (fun k j z1 z2 z3 _ => hE.s (by omega) (by omega) (by omega) (by omega)) (fun k j z => em k j (by omega))
  · refine rT_new (r := r) h.T h.I.u n3 (by omega) (fun k _ => by rw [eR]) (fun k _ hk s hs => mo k hk s hs) (fun q' hq' s hs => ?_)
    rw [d5, row r s (by omega)]
    by_cases hz : a ≤ s ∧ s < a + n
    · rw [if_pos ⟨rfl, hz⟩, nI_inji (by omega) (by omega), h0 s hz.1 (by omega)]
      constructor
      · rintro (z | z)
        · exact Or.inl ⟨z, fun w => nI_m1 (by omega) w.2.symm⟩
        · exact Or.inr z.1.symm
      · rintro (z | z)
        · exact Or.inl z.1
        · exact Or.inr ⟨z.symm, hz⟩
    · rw [if_neg (fun w => hz w.2)]
      constructor
      · rintro (z | z)
        · by_cases hm : M 12 (29 * r + s) = nI q'
          · exact Or.inr hm
          · exact Or.inl ⟨z, fun w => hm w.2⟩
        · exact absurd z.2 hz
      · rintro (z | z)
        · exact Or.inl z.1
        · exact Or.inl ((h.T q' hq' s hs).mpr ⟨r, hr, z⟩)
  · refine rP_new (r := r) h.P n3 (fun k hk _ => by rw [← eR]; exact hk) (fun k hk hne => ⟨fun s _ => by rw [dp, if_neg (fun z => hne z.1)], fun s hs => mo k hne s hs⟩) (fun s hs => ?_)
    rw [dp, row r s (by omega), h.P r hr s hs]
  · refine rI_new (r := r) h.I (fun k hk _ => by rw [← eR]; exact hk) eF (fun q _ => zmK (fun j => em 1 j (by omega)) (fun j => em 2 j (by omega))) (fun k hk hne => ⟨em 6 k (by omega), em 7 k (by omega), em 8 k (by omega), em 9 k (by omega), fun s hs => mo k hne s hs⟩) (by rw [em 9 r (by omega)]; exact h.I.cl r hr) (by rw [em 6 r (by omega)]; exact h.I.st r hr) (fun s hs => ?_) (fun s hs q' hq' z r' hr' hne w => ?_) (fun z => by rw [em 6 r (by omega), h6] at z; exact absurd z (by decide)) (fun z => by rw [em 6 r (by omega), h6] at z; exact absurd z (by decide)) (fun z => absurd z (by simp)) (fun _ _ _ => Iff.rfl)
    · rw [row r s hs, zva (em 7 r (by omega)), zvb (em 8 r (by omega))]
      by_cases hz : a ≤ s ∧ s < a + n
      · rw [if_pos ⟨rfl, hz⟩]
        exact Or.inr ⟨by omega, by omega, q, by omega, rfl⟩
      · rw [if_neg (fun y => hz y.2)]
        exact (h.I.w r hr s hs).imp id (fun y => ⟨y.1, y.2.1, y.2.2.imp (fun q' u => ⟨by omega, u.2⟩)⟩)
    · rw [row r s hs] at z
      by_cases hz : a ≤ s ∧ s < a + n
      · rw [if_pos ⟨rfl, hz⟩] at z
        exact (hf s hz.1 hz.2).2 r' hr' ⟨nI_m1 (by omega), by rw [w, z]⟩
      · rw [if_neg (fun y => hz y.2)] at z
        exact hne (h.I.u r' r s q' hr' hr hs hq' w z)
theorem bc_eq {L A b r : Nat} {t : Int32} {M0 : am_D} (ht : dCl t) (hb : b ≤ L) (h0L : vL M0 = L) (h0F : vF M0 (vC M0) ≤ 80) : ∀ (f a n : Nat) (D M : am_D) (p : Int32), Rel L A D M none → r < vR M → M 6 r = 2 → va M r ≤ a → vb M r = b → (∀ s, a ≤ s → s < 29 → M 12 (29 * r + s) = -1) → (p = -1 ∨ ¬ dFree D p.toNatClampNeg (wayI (nI a) (nI (a + 1)))) → mSim a M0 M → ¬ mFewF M0 b t f a n < 0 → b ≤ a + f → a ≤ L → Rel L A (dBcF L r t (b - a) a p D) (mBcF r b t f a M) none
  | 0, a, n, D, M, p, h, _, _, _, _, _, _, _, _, hf, _ => by
    rw [show b - a = 0 by omega]
    exact h
  | f + 1, a, n, D, M, p, h, hr, h6, hva, hvb, hz, hp, hs, hw, hf, haL => by
    obtain ⟨n1, n2, n3, n4, n5, n6, n7, n8, n9⟩ := h.n
    unfold mBcF
    by_cases hba : b ≤ a
    · rw [if_pos hba, show b - a = 0 by omega]
      exact h
    · rw [if_neg hba]
      unfold mFewF at hw
      rw [if_neg hba] at hw
      have hlg := hs.lg (t := t) (Nat.le_refl a) (by omega) (by omega) h0F
      by_cases hneg : mLg M0 a t < 0
      · rw [if_pos hneg] at hw
        exact absurd (by decide) hw
      · rw [if_neg hneg] at hw
        rcases mLg_s (M := M) (a := a) (t := t) (by omega) (by omega) with h1 | ⟨q, hq, h1, hcl, hfr⟩
        · rw [hlg] at h1
          rw [h1] at hneg
          exact absurd (by decide) hneg
        · have hqd : q < dC D := by omega
          have hn1 : ¬ D 2 q = -1 := by
            rw [(h.S.cl hqd ht).mp hcl]
            exact dCl_m1 ht
          have hrun : mRun M (nI q) (-1) (b - a) a = mRun M0 (nI q) (-1) (b - a) a := hs.run (by omega) _ _ (Nat.le_refl _) (by omega)
          obtain ⟨r1, r2, r3⟩ := run_at (M := M) (p := nI q) (one := -1) (b - a) a
          have hpos := mRun_pos (f := b - a) hfr (by omega)
          rw [← hlg, h1] at hw
          rw [← hrun] at hw
          rw [h1]
          generalize mRun M (nI q) (-1) (b - a) a = k at *
          have hfree : ∀ u, a ≤ u → u < a + k → ¬ bt (D 5 q) u ∧ ¬ bt (D 6 q) u := fun u u1 u2 => by
            have := r2 (u - a) (by omega)
            rw [show a + (u - a) = u by omega] at this
            exact (fr_eq h.T h.K (rO_m1 n4) n3 n4 hqd n6 hn1 (by omega)).mp this
          have hP : dBcP L D t a p = nI q := by
            unfold dBcP
            rw [if_pos hp, lg_eq' h.S h.T h.K n3 n4 n6 ht haL]
            exact h1
          have hstep := bc_run (i := r) (show q < 80 by omega) n3 hP (k - 1) (b - a - k) (by omega) (fun u u1 u2 => hfree u (by omega) (by omega))
          rw [show k - 1 + 1 = k by omega, show k + (b - a - k) = b - a by omega] at hstep
          rw [hstep, show b - a - k = b - (a + k) by omega]
          have hrel := fill_rel (q := q) (a := a) (n := k) h hr h6 hqd hva (by omega) hz (fun s s1 s2 => by
            have := r2 (s - a) (by omega)
            rwa [show a + (s - a) = s by omega] at this)
          have em : ∀ m j, m ≠ 12 → mFill M r a (a + k) (nI q) m j = M m j := fun m j z => mFill_ne z
          by_cases hend : b ≤ a + k
          · rw [show b - (a + k) = 0 by omega]
            cases f with
            | zero => exact hrel
            | succ f =>
              unfold mBcF
              rw [if_pos hend]
              exact hrel
          · refine bc_eq ht hb h0L h0F f (a + k) (n + 1) _ _ _ hrel (by rw [zvR (em 0 8 (by omega))]; exact hr) (by rw [em 6 r (by omega)]; exact h6) (by rw [zva (em 7 r (by omega))]; omega) (by rw [zvb (em 8 r (by omega))]; exact hvb) (fun s s1 s2 => ?_) (Or.inr ?_) (mSim_fill hs (by omega) (by omega)) hw (by omega) (by omega)
            · rw [mFill_row s2 (by omega), if_neg (fun z => by omega)]
              exact hz s (by omega) s2
            · rw [nI_clamp (n := q) (by omega), one_free (by omega)]
              intro z
              refine r3.elim (fun y => by omega) (fun y => y ?_)
              refine (fr_eq h.T h.K (rO_m1 n4) n3 n4 hqd n6 hn1 (by omega)).mpr ⟨fun w => z.1 ?_, fun w => z.2 ?_⟩
              · rw [dSit_bt (by omega) (by omega) (by omega)]
                exact Or.inl w
              · rw [dSit_ne (by omega) (by unfold sd_pn; omega)]
                exact w
