/-! ===== the worlds after the constructors ===== -/
theorem rf_c {x : Int32} {n : Nat} (h : x = nI n) (h0 : 0 < n) (hn : n < 2 ^ 31) : am_rf x = .ref n := by
  rw [h]
  unfold am_rf
  rw [if_neg (fun z => by
    have := congrArg Int32.toNatClampNeg z
    rw [nI_clamp hn] at this
    have z0 : (0 : Int32).toNatClampNeg = 0 := by decide
    omega), nI_clamp hn]
theorem va_2 {x : Int32} {n : Nat} (h : x = nI n) (h0 : 0 < n) (hn : n < 2 ^ 31) : am_va 2 x = am_va (n + 3) x := rf_c h h0 hn
theorem sd_W0 {L : Nat} {dT : Nat → ClassId} {ρ : Nat → Nat} {D : am_D} (h : dRefs D) : am_W (sd_s0 L) dT ρ 21 D = am_W (sd_sh L) dT ρ 21 D := by
  unfold am_W
  refine List.map_congr_left fun n hn => ?_
  refine congrArg (fun z => (ρ n, z)) ?_
  obtain ⟨h1, h2, h3⟩ := h
  by_cases n0 : n = 0
  · subst n0
    obtain ⟨a0, a1, a2, a3, a4, a5, a6⟩ := h1
    have z0 : am_va 2 (D 0 1) = am_va 4 (D 0 1) := va_2 (n := 1) a0 (by decide) (by decide)
    have z1 : am_va 2 (D 0 2) = am_va 12 (D 0 2) := va_2 (n := 9) a1 (by decide) (by decide)
    have z2 : am_va 2 (D 0 3) = am_va 15 (D 0 3) := va_2 (n := 12) a2 (by decide) (by decide)
    have z3 : am_va 2 (D 0 5) = am_va 16 (D 0 5) := va_2 (n := 13) a3 (by decide) (by decide)
    have z4 : am_va 2 (D 0 7) = am_va 21 (D 0 7) := va_2 (n := 18) a4 (by decide) (by decide)
    have z5 : am_va 2 (D 0 8) = am_va 22 (D 0 8) := va_2 (n := 19) a5 (by decide) (by decide)
    have z6 : am_va 2 (D 0 9) = am_va 23 (D 0 9) := va_2 (n := 20) a6 (by decide) (by decide)
    show (Sum.inr (3, List.mapIdx (fun i k => am_v ρ (am_va k (D 0 i))) [0, 2, 2, 2, 0, 2, 0, 2, 2, 2]) : va_E) = Sum.inr (3, List.mapIdx (fun i k => am_v ρ (am_va k (D 0 i))) [0, 4, 12, 15, 0, 16, 0, 21, 22, 23])
    simp only [List.mapIdx_cons, List.mapIdx_nil, Nat.zero_add, Nat.reduceAdd, z0, z1, z2, z3, z4, z5, z6]
  · by_cases n1 : n = 1
    · subst n1
      obtain ⟨a0, a1, a2, a3, a4, a5, a6⟩ := h2
      have z0 : am_va 2 (D 1 2) = am_va 5 (D 1 2) := va_2 (n := 2) a0 (by decide) (by decide)
      have z1 : am_va 2 (D 1 3) = am_va 6 (D 1 3) := va_2 (n := 3) a1 (by decide) (by decide)
      have z2 : am_va 2 (D 1 4) = am_va 7 (D 1 4) := va_2 (n := 4) a2 (by decide) (by decide)
      have z3 : am_va 2 (D 1 5) = am_va 8 (D 1 5) := va_2 (n := 5) a3 (by decide) (by decide)
      have z4 : am_va 2 (D 1 6) = am_va 9 (D 1 6) := va_2 (n := 6) a4 (by decide) (by decide)
      have z5 : am_va 2 (D 1 8) = am_va 10 (D 1 8) := va_2 (n := 7) a5 (by decide) (by decide)
      have z6 : am_va 2 (D 1 9) = am_va 11 (D 1 9) := va_2 (n := 8) a6 (by decide) (by decide)
      show (Sum.inr (2, List.mapIdx (fun i k => am_v ρ (am_va k (D 1 i))) [0, 0, 2, 2, 2, 2, 2, 0, 2, 2]) : va_E) = Sum.inr (2, List.mapIdx (fun i k => am_v ρ (am_va k (D 1 i))) [0, 0, 5, 6, 7, 8, 9, 0, 10, 11])
      simp only [List.mapIdx_cons, List.mapIdx_nil, Nat.zero_add, Nat.reduceAdd, z0, z1, z2, z3, z4, z5, z6]
    · by_cases n9 : n = 9
      · subst n9
        obtain ⟨a0, a1⟩ := h3
        have z0 : am_va 2 (D 9 0) = am_va 13 (D 9 0) := va_2 (n := 10) a0 (by decide) (by decide)
        have z1 : am_va 2 (D 9 1) = am_va 14 (D 9 1) := va_2 (n := 11) a1 (by decide) (by decide)
        show (Sum.inr (0, List.mapIdx (fun i k => am_v ρ (am_va k (D 9 i))) [2, 2, 0]) : va_E) = Sum.inr (0, List.mapIdx (fun i k => am_v ρ (am_va k (D 9 i))) [13, 14, 0])
        simp only [List.mapIdx_cons, List.mapIdx_nil, Nat.zero_add, Nat.reduceAdd, z0, z1]
      · unfold sd_s0
        rw [if_neg n0, if_neg n1, if_neg n9]
theorem sm_W0 {dT : Nat → ClassId} {ρ : Nat → Nat} {D : am_D} (h : mRefs D) : am_W sm_s0 dT ρ 18 D = am_W sm_sh dT ρ 18 D := by
  unfold am_W
  refine List.map_congr_left fun n hn => ?_
  refine congrArg (fun z => (ρ n, z)) ?_
  by_cases n0 : n = 0
  · subst n0
    obtain ⟨a0, a1, a2, a3, a4, a5, a6, a7, a8, a9, a10, a11, a12, a13, a14, a15, a16⟩ := h
    have z0 : am_va 2 (D 0 3) = am_va 4 (D 0 3) := va_2 (n := 1) a0 (by decide) (by decide)
    have z1 : am_va 2 (D 0 4) = am_va 5 (D 0 4) := va_2 (n := 2) a1 (by decide) (by decide)
    have z2 : am_va 2 (D 0 5) = am_va 6 (D 0 5) := va_2 (n := 3) a2 (by decide) (by decide)
    have z3 : am_va 2 (D 0 6) = am_va 7 (D 0 6) := va_2 (n := 4) a3 (by decide) (by decide)
    have z4 : am_va 2 (D 0 7) = am_va 8 (D 0 7) := va_2 (n := 5) a4 (by decide) (by decide)
    have z5 : am_va 2 (D 0 9) = am_va 9 (D 0 9) := va_2 (n := 6) a5 (by decide) (by decide)
    have z6 : am_va 2 (D 0 10) = am_va 10 (D 0 10) := va_2 (n := 7) a6 (by decide) (by decide)
    have z7 : am_va 2 (D 0 11) = am_va 11 (D 0 11) := va_2 (n := 8) a7 (by decide) (by decide)
    have z8 : am_va 2 (D 0 12) = am_va 12 (D 0 12) := va_2 (n := 9) a8 (by decide) (by decide)
    have z9 : am_va 2 (D 0 13) = am_va 13 (D 0 13) := va_2 (n := 10) a9 (by decide) (by decide)
    have z10 : am_va 2 (D 0 14) = am_va 14 (D 0 14) := va_2 (n := 11) a10 (by decide) (by decide)
    have z11 : am_va 2 (D 0 15) = am_va 15 (D 0 15) := va_2 (n := 12) a11 (by decide) (by decide)
    have z12 : am_va 2 (D 0 16) = am_va 16 (D 0 16) := va_2 (n := 13) a12 (by decide) (by decide)
    have z13 : am_va 2 (D 0 18) = am_va 17 (D 0 18) := va_2 (n := 14) a13 (by decide) (by decide)
    have z14 : am_va 2 (D 0 19) = am_va 18 (D 0 19) := va_2 (n := 15) a14 (by decide) (by decide)
    have z15 : am_va 2 (D 0 20) = am_va 19 (D 0 20) := va_2 (n := 16) a15 (by decide) (by decide)
    have z16 : am_va 2 (D 0 22) = am_va 20 (D 0 22) := va_2 (n := 17) a16 (by decide) (by decide)
    show (Sum.inr (4, List.mapIdx (fun i k => am_v ρ (am_va k (D 0 i))) [0, 0, 0, 2, 2, 2, 2, 2, 0, 2, 2, 2, 2, 2, 2, 2, 2, 0, 2, 2, 2, 0, 2]) : va_E) = Sum.inr (4, List.mapIdx (fun i k => am_v ρ (am_va k (D 0 i))) [0, 0, 0, 4, 5, 6, 7, 8, 0, 9, 10, 11, 12, 13, 14, 15, 16, 0, 17, 18, 19, 0, 20])
    simp only [List.mapIdx_cons, List.mapIdx_nil, Nat.zero_add, Nat.reduceAdd, z0, z1, z2, z3, z4, z5, z6, z7, z8, z9, z10, z11, z12, z13, z14, z15, z16]
  · unfold sm_s0
    rw [if_neg n0]
theorem sh_k {N : Nat} {ks : List Nat} {f : Nat → Int32} (h : (ks.all fun k => decide (k ≤ 1 ∨ (3 ≤ k ∧ k < N + 3))) = true) {i k : Nat} (hi : ks[i]? = some k) : am_okv N (am_va k (f i)) := by
  have := of_decide_eq_true (List.all_eq_true.mp h k (List.mem_of_getElem? hi))
  match k, this with
  | 0, _ => trivial
  | 1, _ => trivial
  | 2, q => exact absurd q (by omega)
  | c + 3, q =>
    show c < N
    omega
theorem sd_Rk0 {L : Nat} {D : am_D} (h : am_Rk (sd_s0 L) 21 D) : am_Rk (sd_sh L) 21 D := by
  have same : ∀ n, n ≠ 0 → n ≠ 1 → n ≠ 9 → sd_s0 L n = sd_sh L n := fun n h0 h1 h9 => by
    unfold sd_s0
    rw [if_neg h0, if_neg h1, if_neg h9]
  refine ⟨fun n q i k hn hq hk => ?_, fun n q j hn hq h2 => ?_⟩
  · by_cases n0 : n = 0
    · subst n0
      cases hq
      exact sh_k (by decide) hk
    · by_cases n1 : n = 1
      · subst n1
        cases hq
        exact sh_k (by decide) hk
      · by_cases n9 : n = 9
        · subst n9
          cases hq
          exact sh_k (by decide) hk
        · exact h.1 n q i k hn ((same n n0 n1 n9).trans hq) hk
  · refine h.2 n q j hn ((same n ?_ ?_ ?_).trans hq) h2 <;> (rintro rfl; cases hq)
theorem sm_Rk0 {D : am_D} (h : am_Rk sm_s0 18 D) : am_Rk sm_sh 18 D := by
  have same : ∀ n, n ≠ 0 → sm_s0 n = sm_sh n := fun n h0 => by
    unfold sm_s0
    rw [if_neg h0]
  refine ⟨fun n q i k hn hq hk => ?_, fun n q j hn hq h2 => ?_⟩
  · by_cases n0 : n = 0
    · subst n0
      cases hq
      exact sh_k (by decide) hk
    · exact h.1 n q i k hn ((same n n0).trans hq) hk
  · refine h.2 n q j hn ((same n ?_).trans hq) h2
    rintro rfl
    cases hq
theorem stI_L (x : Int32) : ∃ L, 1 ≤ L ∧ L ≤ 29 ∧ stI x = nI (L + 1) := by
  unfold stI
  by_cases h : x < 2 ∨ 30 < x
  · rw [if_pos h]
    exact ⟨9, by decide, by decide, by decide⟩
  · rw [if_neg h]
    have h1 : 2 ≤ x.toInt := by
      have := mt Or.inl h
      rw [Int32.lt_iff_toInt_lt] at this
      simpa using this
    have h2 : x.toInt ≤ 30 := by
      have := mt Or.inr h
      rw [Int32.lt_iff_toInt_lt] at this
      simpa using this
    refine ⟨(x.toInt - 1).toNat, by omega, by omega, ?_⟩
    apply Int32.toInt_inj.mp
    rw [nI_toInt (by omega)]
    omega
