/-! ===== desk and reference: block, unblock ===== -/
theorem bKept_c {D D' : am_D} {p : Int32} (h : ∀ j, D' 10 j = D 10 j ∧ D' 11 j = D 11 j) : ∀ (f i : Nat) (x : Int32), bKept D' p f i x = bKept D p f i x
  | 0, _, _ => rfl
  | f + 1, i, x => by
    unfold bKept
    rw [(h i).1, (h i).2, bKept_c h f (i + 1), bKept_c h f (i + 1)]
theorem dKp_6 {D : am_D} {q : Nat} : dKp D q 6 q = bKept (dKp D q) (nI q) (bB (dKp D q)) 0 0 := by
  have e : ∀ n j, n ≠ 6 → dKp D q n j = D n j := fun n j z => am_up_at (fun w => z w.1)
  rw [bKept_c (D := D) (fun j => ⟨e 10 j (by omega), e 11 j (by omega)⟩), zbB (e 9 2 (by omega))]
  exact am_up_same
theorem dKp_ne {D : am_D} {q n j : Nat} (h : ¬ (n = 6 ∧ j = q)) : dKp D q n j = D n j := am_up_at h
theorem add_rel {L A q x y : Nat} {D M : am_D} (h : Rel L A D M none) (hB : bB D < 512) (hq : q < dC D) (hxy : x < y) (hy : y ≤ L) : Rel L A (dBl D q (wayI (nI x) (nI y))) (mAddB M (nI q) (nI x) (nI y)) none := by
  obtain ⟨n1, n2, n3, n4, n5, n6, n7, n8, n9⟩ := h.n
  have hBv : bB D = vB M := h.B.1
  obtain ⟨a1, a2, a3, a4⟩ := mAddB.all (p := nI q) (a := nI x) (b := nI y) h.G h.GR (by omega)
  obtain ⟨g1, g2⟩ := bAdd_G (D := D) (p := nI q) (w := wayI (nI x) (nI y)) hB
  have em : ∀ n j, ¬ (n = 0 ∧ j = 17) → ¬ (j = vB M ∧ (n = 14 ∨ n = 15 ∨ n = 16)) → mAddB M (nI q) (nI x) (nI y) n j = M n j := fun n j z1 z2 => by
    unfold mAddB
    rw [am_up_at z1, am_up_at (by omega), am_up_at (by omega), am_up_at (by omega)]
  have m14 : mAddB M (nI q) (nI x) (nI y) 14 (vB M) = nI q := by
    unfold mAddB
    rw [am_up_at (by omega), am_up_at (by omega), am_up_at (by omega), am_up_same]
  have m15 : mAddB M (nI q) (nI x) (nI y) 15 (vB M) = nI x := by
    unfold mAddB
    rw [am_up_at (by omega), am_up_at (by omega), am_up_same]
  have m16 : mAddB M (nI q) (nI x) (nI y) 16 (vB M) = nI y := by
    unfold mAddB
    rw [am_up_at (by omega), am_up_same]
  have db : ∀ n j, n ≠ 6 → dBl D q (wayI (nI x) (nI y)) n j = bAdd D (nI q) (wayI (nI x) (nI y)) n j := fun n j z => dKp_ne (by omega)
  have d10 : ∀ n j, (n = 10 ∨ n = 11) → j ≠ bB D → dBl D q (wayI (nI x) (nI y)) n j = D n j := fun n j z1 z2 => by
    rw [db n j (by omega)]
    unfold bAdd
    rw [am_up_at (by omega), am_up_at (by omega), am_up_at (by omega)]
  have d10' : dBl D q (wayI (nI x) (nI y)) 10 (bB D) = nI q := by
    rw [db _ _ (by omega)]
    unfold bAdd
    rw [am_up_at (by omega), am_up_at (by omega), am_up_same]
  have d11' : dBl D q (wayI (nI x) (nI y)) 11 (bB D) = wayI (nI x) (nI y) := by
    rw [db _ _ (by omega)]
    unfold bAdd
    rw [am_up_at (by omega), am_up_same]
  have ebB : bB (dBl D q (wayI (nI x) (nI y))) = bB D + 1 := (zbB (db 9 2 (by omega))).trans g2
  have h6 : dBl D q (wayI (nI x) (nI y)) 6 q = bKept (dBl D q (wayI (nI x) (nI y))) (nI q) (bB (dBl D q (wayI (nI x) (nI y)))) 0 0 := dKp_6
  have hbg : bG (dBl D q (wayI (nI x) (nI y))) := g1.eq (db 9 2 (by omega))
  have ed : ∀ n j, n ≠ 9 → n ≠ 10 → n ≠ 11 → ¬ (n = 6 ∧ j = q) → dBl D q (wayI (nI x) (nI y)) n j = D n j := fun n j z1 z2 z3 z4 => by
    show dKp _ q n j = _
    rw [dKp_ne z4, bAdd_ne z1 z2 z3]
  generalize dBl D q (wayI (nI x) (nI y)) = D' at *
  generalize mAddB M (nI q) (nI x) (nI y) = M' at *
  have eF : vF M' (vC M') = vF M (vC M) := by rw [zvF (fun j => em 1 j (by omega) (by omega)), zvC (em 0 2 (by omega) (by omega))]
  refine h.blk (q := q) a1 ⟨by omega, fun P => ?_, fun b hb => ?_⟩ hbg ed (fun n j z1 z2 z3 z4 z5 => em n j z1 (by omega)) h6 (fun p hp s => ?_) (by omega)
  · rw [ebB, a3, am_cnt_last, am_cnt_last, Nat.zero_add, Nat.zero_add, d10', d11', m14, m15, m16]
    congr 1
    rw [am_cnt_c (q := fun i => P (D 10 i) (D 11 i)) _ _ _ (fun j _ hj => by rw [d10 10 j (by omega) (by omega), d10 11 j (by omega) (by omega)]), h.B.2.1 P]
    exact am_cnt_c _ _ _ (fun j _ hj => by rw [em 14 j (by omega) (by omega), em 15 j (by omega) (by omega), em 16 j (by omega) (by omega)])
  · rw [eF]
    by_cases e : b = vB M
    · rw [e, m14, m15, m16]
      exact ⟨q, x, y, by omega, rfl, rfl, rfl, hxy, hy⟩
    · rw [em 14 b (by omega) (by omega), em 15 b (by omega) (by omega), em 16 b (by omega) (by omega)]
      exact h.B.2.2 b (by omega)
  · unfold mBk
    constructor
    · rintro ⟨b, z1, z2, z3⟩
      by_cases e : b = vB M
      · rw [e, m14] at z2
        exact absurd z2.symm hp
      · rw [em 14 b (by omega) (by omega)] at z2
        rw [em 15 b (by omega) (by omega), em 16 b (by omega) (by omega)] at z3
        exact ⟨b, by omega, z2, z3⟩
    · rintro ⟨b, z1, z2⟩
      refine ⟨b, by omega, ?_⟩
      rw [em 14 b (by omega) (by omega), em 15 b (by omega) (by omega), em 16 b (by omega) (by omega)]
      exact z2
theorem mDrop_lo {M : am_D} {b n j : Nat} (h : j < b) (hn : n = 14 ∨ n = 15 ∨ n = 16) : mDrop M b n j = M n j := by
  unfold mDrop mDropI
  rw [if_neg (by omega), if_neg (by omega)]
theorem mDrop_hi {M : am_D} {b n j : Nat} (h : b ≤ j) (h2 : j < vB M - 1) (hn : n = 14 ∨ n = 15 ∨ n = 16) : mDrop M b n j = M n (j + 1) := by
  unfold mDrop mDropI
  rw [if_neg (by omega), if_pos ⟨hn, h, h2⟩]
theorem mDrop_b {M : am_D} {b j : Nat} (hj : j < vB M - 1) : (j < b ∧ ∀ n, n = 14 ∨ n = 15 ∨ n = 16 → mDrop M b n j = M n j) ∨ (b ≤ j ∧ ∀ n, n = 14 ∨ n = 15 ∨ n = 16 → mDrop M b n j = M n (j + 1)) := by
  rcases Nat.lt_or_ge j b with h | h
  · exact Or.inl ⟨h, fun n hn => mDrop_lo h hn⟩
  · exact Or.inr ⟨h, fun n hn => mDrop_hi h hj hn⟩
theorem mDrop_cnt {M : am_D} {b : Nat} {P : Int32 → Int32 → Prop} (hb : b < vB M) : am_cnt (fun j => P (mDrop M b 14 j) (wayI (mDrop M b 15 j) (mDrop M b 16 j))) (vB M - 1) 0 0 + z_i (P (M 14 b) (wayI (M 15 b) (M 16 b))) = am_cnt (fun j => P (M 14 j) (wayI (M 15 j) (M 16 j))) (vB M) 0 0 := by
  have := cnt_drop (p := fun j => P (M 14 j) (wayI (M 15 j) (M 16 j))) (p' := fun j => P (mDrop M b 14 j) (wayI (mDrop M b 15 j) (mDrop M b 16 j))) (b := b) (vB M - 1) (by omega) (fun j hj => by
    rcases mDrop_b (b := b) hj with ⟨z1, z2⟩ | ⟨z1, z2⟩
    · rw [if_pos z1, z2 14 (by omega), z2 15 (by omega), z2 16 (by omega)]
    · rw [if_neg (by omega), z2 14 (by omega), z2 15 (by omega), z2 16 (by omega)])
  rwa [show vB M - 1 + 1 = vB M by omega] at this
theorem bRem_at {D : am_D} {i n j : Nat} (hn : n = 10 ∨ n = 11) : bRem D i n j = if j = i then D n (bB D - 1) else D n j := by
  unfold bRem
  rcases hn with rfl | rfl
  · rw [am_up_at (by omega)]
    by_cases h : j = i
    · rw [h, am_up_same, if_pos rfl]
    · rw [am_up_at (fun z => h z.2), if_neg h, am_up_at (by omega)]
  · by_cases h : j = i
    · rw [h, am_up_same, if_pos rfl]
    · rw [am_up_at (fun z => h z.2), if_neg h, am_up_at (by omega), am_up_at (by omega)]
theorem bRem_ne {D : am_D} {i n j : Nat} (h1 : n ≠ 9) (h2 : n ≠ 10) (h3 : n ≠ 11) : bRem D i n j = D n j := by
  unfold bRem
  rw [am_up_at (fun z => h3 z.1), am_up_at (fun z => h2 z.1), am_up_at (fun z => h1 z.1)]
theorem bRem_cnt {D : am_D} {i : Nat} {P : Int32 → Int32 → Prop} (hi : i < bB D) : am_cnt (fun j => P (bRem D i 10 j) (bRem D i 11 j)) (bB D - 1) 0 0 + z_i (P (D 10 i) (D 11 i)) = am_cnt (fun j => P (D 10 j) (D 11 j)) (bB D) 0 0 := by
  have := cnt_swap (p := fun j => P (D 10 j) (D 11 j)) (p' := fun j => P (bRem D i 10 j) (bRem D i 11 j)) (i := i) (n := bB D - 1) (by omega) (fun j hj => by
    rw [bRem_at (by omega), bRem_at (by omega)]
    by_cases h : j = i
    · rw [if_pos h, if_pos h, if_pos h]
    · rw [if_neg h, if_neg h, if_neg h])
  rwa [show bB D - 1 + 1 = bB D by omega] at this
theorem rem_rel {L A q i b : Nat} {D M : am_D} {w : Int32} (h : Rel L A D M none) (hq : q < 80) (hi : i < bB D) (hi1 : D 10 i = nI q) (hi2 : D 11 i = w) (hb : b < vB M) (hb1 : M 14 b = nI q) (hb2 : wayI (M 15 b) (M 16 b) = w) : Rel L A (dKp (bRem D i) q) (mDrop M b) none := by
  obtain ⟨n1, n2, n3, n4, n5, n6, n7, n8, n9⟩ := h.n
  have hBv : bB D = vB M := h.B.1
  obtain ⟨a1, a2, a3, a4, a5, a6⟩ := mDrop.all (b := b) h.G h.GR
  obtain ⟨g1, g2⟩ := bRem.all h.bg hi
  have em : ∀ n j, ¬ (n = 0 ∧ j = 17) → n ≠ 14 → n ≠ 15 → n ≠ 16 → mDrop M b n j = M n j := fun n j => mDrop_at
  have db : ∀ n j, n ≠ 6 → dKp (bRem D i) q n j = bRem D i n j := fun n j z => dKp_ne (by omega)
  have ebB : bB (dKp (bRem D i) q) = bB D - 1 := (zbB (db 9 2 (by omega))).trans g2
  have eF : vF (mDrop M b) (vC (mDrop M b)) = vF M (vC M) := by rw [zvF (fun j => em 1 j (by omega) (by omega) (by omega) (by omega)), a6]
  have ent : ∀ j, j < vB M - 1 → ∃ j', j' < vB M ∧ (j < b ∧ j' = j ∨ b ≤ j ∧ j' = j + 1) ∧ ∀ n, n = 14 ∨ n = 15 ∨ n = 16 → mDrop M b n j = M n j' := fun j hj => by
    rcases mDrop_b (b := b) hj with ⟨z1, z2⟩ | ⟨z1, z2⟩
    · exact ⟨j, by omega, by omega, z2⟩
    · exact ⟨j + 1, by omega, by omega, z2⟩
  refine h.blk (q := q) a1 ⟨by omega, fun P => ?_, fun b' hb' => ?_⟩ (g1.eq (db 9 2 (by omega))) (fun n j z1 z2 z3 z4 => by rw [dKp_ne z4, bRem_ne z1 z2 z3]) (fun n j z1 _ z3 z4 z5 => em n j z1 z3 z4 z5) dKp_6 (fun p hp s => ?_) hq
  · rw [ebB, a5]
    have k1 := bRem_cnt (P := P) hi
    have k2 := mDrop_cnt (P := P) hb
    rw [h.B.2.1 P, ← k2, hi1, hi2, hb1, hb2] at k1
    rw [am_cnt_c (q := fun j => P (bRem D i 10 j) (bRem D i 11 j)) _ _ _ (fun j _ hj => by rw [db 10 j (by omega), db 11 j (by omega)])]
    omega
  · obtain ⟨j', z1, z2, z3⟩ := ent b' (by omega)
    rw [z3 14 (by omega), z3 15 (by omega), z3 16 (by omega), eF]
    exact h.B.2.2 j' z1
  · unfold mBk
    rw [a5]
    constructor
    · rintro ⟨b', z1, z2⟩
      obtain ⟨j', y1, y2, y3⟩ := ent b' (by omega)
      rw [y3 14 (by omega), y3 15 (by omega), y3 16 (by omega)] at z2
      exact ⟨j', y1, z2⟩
    · rintro ⟨b', z1, z2⟩
      rcases Nat.lt_trichotomy b' b with e | e | e
      · refine ⟨b', by omega, ?_⟩
        rw [mDrop_lo e (by omega), mDrop_lo e (by omega), mDrop_lo e (by omega)]
        exact z2
      · rw [e, hb1] at z2
        exact absurd z2.1.symm hp
      · refine ⟨b' - 1, by omega, ?_⟩
        rw [mDrop_hi (by omega) (by omega) (by omega), mDrop_hi (by omega) (by omega) (by omega), mDrop_hi (by omega) (by omega) (by omega), show b' - 1 + 1 = b' by omega]
        exact z2
theorem unblock_k {L A : Nat} {D M : am_D} {c s a b : Int32} {k : Int32 → am_D → Prop} (h : Rel L A D M none) (hk : ∀ D', Rel L A D' (mUn M c s a b).2 none → k (mUn M c s a b).1 D') : ((dFind D c s = -1 ∨ ¬ (¬ a < 0 ∧ a < b ∧ b ≤ nI L) ∨ bFind D (dFind D c s) (wayI a b) < 0) → k 0 D) ∧ ∀ q, dFind D c s = nI q → q < 80 → (¬ a < 0 ∧ a < b ∧ b ≤ nI L) → ¬ bFind D (nI q) (wayI a b) < 0 → k 1 (dKp (dUnb D (nI q) (wayI a b)) q) := by
  have h' := h.mT
  obtain ⟨n1, n2, n3, n4, n5, n6, n7, n8, n9⟩ := h'.n
  have hfi := find_eq h' (c := c) (s := s)
  have hBv : bB D = vB (mT M) := h'.B.1
  have hB512 := h'.bg.2
  have hvB : vB M = vB (mT M) := (mT.all h.G).2.2.2.1.symm
  have hm : ∀ n j, n ≠ 0 → mT M n j = M n j := fun n j z => mT_ne (fun y => z y.1)
  have hne : ∀ {i : Nat}, i < vB (mT M) → (¬ mSeatIn (mT M) c s < 0 ∧ M 14 i = mSeatIn (mT M) c s ∧ M 15 i = a ∧ M 16 i = b) → ∃ q x y, mSeatIn (mT M) c s = nI q ∧ q < 80 ∧ a = nI x ∧ b = nI y ∧ x < y ∧ y ≤ L := fun {i} hi z => by
    obtain ⟨q, x, y, y1, y2, y3, y4, y5, y6⟩ := h'.B.2.2 i hi
    refine ⟨q, x, y, ?_, by omega, ?_, ?_, y5, y6⟩
    · rw [← z.2.1, ← hm 14 i (by omega), y2]
    · rw [← z.2.2.1, ← hm 15 i (by omega), y3]
    · rw [← z.2.2.2, ← hm 16 i (by omega), y4]
  constructor
  · intro hbad
    have hno : mUnF M c s a b < 0 := by
      unfold mUnF
      rw [am_fst_neg _ _ (by omega)]
      intro i _ hi z
      obtain ⟨q, x, y, e1, e2, rfl, rfl, e5, e6⟩ := hne (by omega) z
      rcases hbad with w | w | w
      · rw [hfi, e1] at w
        exact nI_m1 (by omega) w
      · exact w ⟨nI_pos (by omega), (nI_lti (by omega) (by omega)).mpr e5, (nI_lei (by omega) (by omega)).mpr e6⟩
      · rw [hfi, e1] at w
        unfold bFind at w
        rw [am_fst_neg _ _ (by omega)] at w
        obtain ⟨j, j1, j2⟩ := h'.B.ex.mpr ⟨i, by omega, (hm 14 i (by omega)).trans (z.2.1.trans e1), by rw [hm 15 i (by omega), hm 16 i (by omega), z.2.2.1, z.2.2.2]⟩
        exact w j (by omega) (by omega) j2
    have e : mUn M c s a b = (0, mT M) := by
      unfold mUn
      rw [if_pos hno]
    rw [e] at hk
    exact hk D h'
  · intro q hq hq80 hw hbf
    obtain ⟨x, y, rfl, rfl, hxy, hy, -, -⟩ := way_e hw n3
    obtain ⟨i, i1, i2, i3, i4⟩ := bFind_at hB512 hbf
    obtain ⟨b0, b1, b2, b3⟩ := h'.B.ex.mp ⟨i, i1, i3, i4⟩
    rw [hfi] at hq
    have hyes : ¬ mUnF M c s (nI x) (nI y) < 0 := by
      unfold mUnF
      rw [am_fst_neg _ _ (by omega)]
      intro z
      refine z b0 (by omega) (by omega) ⟨by rw [hq]; exact nI_pos (by omega), ?_, ?_⟩
      · rw [hq, ← b2, hm 14 _ (by omega)]
      · obtain ⟨q', x', y', y1, y2, y3, y4, y5, y6⟩ := h'.B.2.2 b0 b1
        rw [y3, y4] at b3
        obtain ⟨e1, e2⟩ := way_inj y5 (by omega) hxy (by omega) b3
        rw [← hm 15 _ (by omega), ← hm 16 _ (by omega), y3, y4, e1, e2]
        exact ⟨rfl, rfl⟩
    obtain ⟨j, j1, j2, j3, j4, -⟩ := am_fst_at _ _ (by omega) hyes
    have e : mUn M c s (nI x) (nI y) = (1, mDrop (mT M) j) := by
      unfold mUn
      rw [if_neg hyes, show mUnF M c s (nI x) (nI y) = nI j from j4, nI_clamp (n := j) (by omega)]
    rw [e] at hk
    refine hk _ ?_
    have eu : dUnb D (nI q) (wayI (nI x) (nI y)) = bRem D i := by
      unfold dUnb
      rw [if_neg hbf, i2, nI_clamp (n := i) (by omega)]
    rw [eu]
    refine rem_rel h' hq80 i1 i3 i4 (by omega) ?_ ?_
    · rw [hm 14 _ (by omega), j3.2.1, hq]
    · rw [hm 15 _ (by omega), hm 16 _ (by omega), j3.2.2.1, j3.2.2.2]
theorem who_i {M : am_D} {q s : Nat} (h150 : vR M ≤ 150) : ¬ mWho M (nI q) s < 0 ↔ ∃ r, r < vR M ∧ M 12 (29 * r + s) = nI q := by
  unfold mWho
  rw [am_fst_neg _ _ (by omega)]
  constructor
  · intro h
    refine Classical.byContradiction (fun z => h (fun j _ hj w => z ⟨j, by omega, w.2⟩))
  · rintro ⟨r, h1, h2⟩ z
    exact z r (by omega) (by omega) ⟨nI_m1 (by omega), h2⟩
theorem who_2 {M : am_D} {q s : Nat} (h150 : vR M ≤ 150) (hU : rU M) (hq : q < 80) (hs : s < 29) : (¬ mWho M (nI q) s < 0 ∧ M 6 (mWho M (nI q) s).toNatClampNeg = 2) ↔ ∃ r, r < vR M ∧ M 12 (29 * r + s) = nI q ∧ M 6 r = 2 := by
  constructor
  · rintro ⟨h1, h2⟩
    unfold mWho at h1 h2
    obtain ⟨j, j1, j2, j3, j4, -⟩ := am_fst_at _ _ (by omega) h1
    rw [j4, nI_clamp (n := j) (by omega)] at h2
    exact ⟨j, by omega, j3.2, h2⟩
  · rintro ⟨r, h1, h2, h3⟩
    have hw := (who_i h150).mpr ⟨r, h1, h2⟩
    refine ⟨hw, ?_⟩
    unfold mWho at hw ⊢
    obtain ⟨j, j1, j2, j3, j4, -⟩ := am_fst_at _ _ (by omega) hw
    rw [j4, nI_clamp (n := j) (by omega), hU j r s q (by omega) h1 hs hq j3.2 h2]
    exact h3
theorem mDrop_end {M : am_D} : mDrop M (vB M - 1) = am_up M 0 17 (nI (vB M - 1)) := by
  funext n j
  unfold mDrop mDropI am_up
  by_cases h : n = 0 ∧ j = 17
  · rw [if_pos h, if_pos h]
  · rw [if_neg h, if_neg h, if_neg (by omega)]
theorem block_k {L A : Nat} {D M : am_D} {c s a b : Int32} {k : Int32 → am_D → Prop} (h : Rel L A D M none) (hB : bB D < 512) (hk : ∀ D', Rel L A D' (mBlock M c s a b).2 none → k (mBlock M c s a b).1 D') : ((dFind D c s = -1 ∨ ¬ (¬ a < 0 ∧ a < b ∧ b ≤ nI L)) → k (-2) D) ∧ ∀ q x y, dFind D c s = nI q → q < 80 → a = nI x → b = nI y → x < y → y ≤ L → ((512 ≤ D 9 2 ∨ dFx D (nI q) x y) → k 0 D) ∧ (¬ 512 ≤ D 9 2 → ¬ dFx D (nI q) x y → (D 5 q &&& wayI a b = 0 → k 1 (dBl D q (wayI a b))) ∧ (¬ D 5 q &&& wayI a b = 0 → ((dSweep L (dBl D q (wayI a b)) (D 2 q) none).2 = true → k 1 (dSweep L (dBl D q (wayI a b)) (D 2 q) none).1) ∧ (¬ (dSweep L (dBl D q (wayI a b)) (D 2 q) none).2 = true → k 0 (dKp (dUnb (dSweep L (dBl D q (wayI a b)) (D 2 q) none).1 (nI q) (wayI a b)) q)))) := by
  have h' := h.mT
  obtain ⟨n1, n2, n3, n4, n5, n6, n7, n8, n9⟩ := h'.n
  have hfi := find_eq h' (c := c) (s := s)
  have hm : ∀ n j, n ≠ 0 → mT M n j = M n j := fun n j z => mT_ne (fun y => z y.1)
  have hwi := way_i (a := a) (b := b) h'.M1 n3
  constructor
  · intro hbad
    have e : mBlock M c s a b = (-2, mT M) := by
      unfold mBlock
      rw [if_pos]
      rw [hwi]
      rcases hbad with w | w
      · left
        rw [hfi] at w
        rw [w]
        decide
      · exact Or.inr w
    rw [e] at hk
    exact hk D h'
  · intro q x y hq hq80 ha hb hxy hy
    subst ha hb
    rw [hfi] at hq
    obtain ⟨c1, c2, c3, c4, c5, c6⟩ := seatIn_c h' hq hq80
    rw [hm 2 _ (by omega)] at c2
    have hway : ¬ nI x < 0 ∧ nI x < nI y ∧ nI y ≤ nI L := ⟨nI_pos (by omega), (nI_lti (by omega) (by omega)).mpr hxy, (nI_lei (by omega) (by omega)).mpr hy⟩
    have e : mBlock M c s (nI x) (nI y) = mBlockOk (mT M) (nI q) x y (D 2 q) := by
      unfold mBlock
      rw [if_neg, hq, nI_clamp (n := x) (by omega), nI_clamp (n := y) (by omega), c2]
      rw [hwi, hq]
      exact fun z => z.elim (nI_pos (by omega)) (fun w => w hway)
    rw [e] at hk
    have h9 : ¬ 512 ≤ D 9 2 := by
      rw [h.bg.1]
      exact fun z => by
        have := (nI_lei (a := 512) (b := bB D) (by omega) (by omega)).mp z
        omega
    have hfx : dFx D (nI q) x y ↔ ∃ u, x ≤ u ∧ u < y ∧ ¬ mWho (mT M) (nI q) u < 0 ∧ mT M 6 (mWho (mT M) (nI q) u).toNatClampNeg = 2 := by
      constructor
      · rintro ⟨i, i1, i2, u, u1, u2, u3⟩
        rw [n7] at i1
        refine ⟨u, u1, u2, (who_2 n4 h'.I.u hq80 (by omega)).mpr ⟨i, i1, ?_, ?_⟩⟩
        · rw [← h'.P i i1 u (by omega)]
          exact u3
        · rw [← (h'.R.2 i i1).2.2.2.2.1]
          exact i2
      · rintro ⟨u, u1, u2, u3⟩
        obtain ⟨r, r1, r2, r3⟩ := (who_2 n4 h'.I.u hq80 (by omega)).mp u3
        exact ⟨r, by omega, by rw [(h'.R.2 r r1).2.2.2.2.1]; exact r3, u, u1, u2, by rw [h'.P r r1 u (by omega)]; exact r2⟩
    refine ⟨fun z => ?_, fun _ hz => ?_⟩
    · have hz := z.resolve_left h9
      have e2 : mBlockOk (mT M) (nI q) x y (D 2 q) = (0, mT M) := by
        unfold mBlockOk
        rw [if_pos (hfx.mp hz)]
      rw [e2] at hk
      exact hk D h'
    · have hz' := fun w => hz (hfx.mpr w)
      have htk : D 5 q &&& wayI (nI x) (nI y) = 0 ↔ ¬ ∃ u, x ≤ u ∧ u < y ∧ ¬ mWho (mT M) (nI q) u < 0 := by
        rw [way_free (by omega) (by omega)]
        constructor
        · rintro w ⟨u, u1, u2, u3⟩
          exact w u u1 u2 ((h'.T q hq80 u (by omega)).mpr ((who_i n4).mp u3))
        · intro w u u1 u2 u3
          exact w ⟨u, u1, u2, (who_i n4).mpr ((h'.T q hq80 u (by omega)).mp u3)⟩
      have hadd := add_rel h' hB c1 hxy hy
      refine ⟨fun z => ?_, fun z => ?_⟩
      · have e2 : mBlockOk (mT M) (nI q) x y (D 2 q) = (1, mAddB (mT M) (nI q) (nI x) (nI y)) := by
          unfold mBlockOk
          rw [if_neg hz', if_neg (htk.mp z)]
        rw [e2] at hk
        exact hk _ hadd
      · have hz2 : ∃ u, x ≤ u ∧ u < y ∧ ¬ mWho (mT M) (nI q) u < 0 := Classical.not_not.mp (fun w => z (htk.mpr w))
        obtain ⟨s1, s2, s3⟩ := sweep_rel hadd c3
        have e2 : mBlockOk (mT M) (nI q) x y (D 2 q) = (if (mSweep (mAddB (mT M) (nI q) (nI x) (nI y)) (D 2 q) (-1)).2 = true then (1, (mSweep (mAddB (mT M) (nI q) (nI x) (nI y)) (D 2 q) (-1)).1) else (0, am_up (mSweep (mAddB (mT M) (nI q) (nI x) (nI y)) (D 2 q) (-1)).1 0 17 (nI (vB (mT M))))) := by
          unfold mBlockOk
          rw [if_neg hz', if_pos hz2]
        rw [e2] at hk
        refine ⟨fun w => ?_, fun w => ?_⟩
        · rw [s1] at w
          rw [if_pos w] at hk
          exact hk _ s2
        · rw [s1] at w
          rw [if_neg w] at hk
          refine hk _ ?_
          have hvB : vB (mAddB (mT M) (nI q) (nI x) (nI y)) = vB (mT M) + 1 := (mAddB.all h'.G h'.GR (by have := h'.B.1; omega)).2.2.1
          have hms : ∀ n j, n ≠ 12 → n ≠ 13 → ¬ (n = 0 ∧ j = 21) → (mSweep (mAddB (mT M) (nI q) (nI x) (nI y)) (D 2 q) (-1)).1 n j = mAddB (mT M) (nI q) (nI x) (nI y) n j := fun n j => mSweep_at
          have hvS : vB (mSweep (mAddB (mT M) (nI q) (nI x) (nI y)) (D 2 q) (-1)).1 = vB (mT M) + 1 := (zvB (hms 0 17 (by omega) (by omega) (by omega))).trans hvB
          have m14 : mAddB (mT M) (nI q) (nI x) (nI y) 14 (vB (mT M)) = nI q := by
            unfold mAddB
            rw [am_up_at (by omega), am_up_at (by omega), am_up_at (by omega), am_up_same]
          have m15 : mAddB (mT M) (nI q) (nI x) (nI y) 15 (vB (mT M)) = nI x := by
            unfold mAddB
            rw [am_up_at (by omega), am_up_at (by omega), am_up_same]
          have m16 : mAddB (mT M) (nI q) (nI x) (nI y) 16 (vB (mT M)) = nI y := by
            unfold mAddB
            rw [am_up_at (by omega), am_up_same]
          have b1 : (mSweep (mAddB (mT M) (nI q) (nI x) (nI y)) (D 2 q) (-1)).1 14 (vB (mT M)) = nI q := (hms 14 _ (by omega) (by omega) (by omega)).trans m14
          have b2 : wayI ((mSweep (mAddB (mT M) (nI q) (nI x) (nI y)) (D 2 q) (-1)).1 15 (vB (mT M))) ((mSweep (mAddB (mT M) (nI q) (nI x) (nI y)) (D 2 q) (-1)).1 16 (vB (mT M))) = wayI (nI x) (nI y) := by
            rw [hms 15 _ (by omega) (by omega) (by omega), hms 16 _ (by omega) (by omega) (by omega), m15, m16]
          obtain ⟨j, j1, j2, j3⟩ := s2.B.ex.mpr ⟨vB (mT M), by omega, b1, b2⟩
          have hbf : ¬ bFind (dSweep L (dBl D q (wayI (nI x) (nI y))) (D 2 q) none).1 (nI q) (wayI (nI x) (nI y)) < 0 := by
            unfold bFind
            have := s2.bg.2
            rw [am_fst_neg _ _ (by omega)]
            exact fun v => v j (by omega) (by omega) ⟨j2, j3⟩
          obtain ⟨i, i1, i2, i3, i4⟩ := bFind_at s2.bg.2 hbf
          have eu : dUnb (dSweep L (dBl D q (wayI (nI x) (nI y))) (D 2 q) none).1 (nI q) (wayI (nI x) (nI y)) = bRem (dSweep L (dBl D q (wayI (nI x) (nI y))) (D 2 q) none).1 i := by
            unfold dUnb
            have := s2.bg.2
            rw [if_neg hbf, i2, nI_clamp (n := i) (by omega)]
          rw [eu]
          have hr := rem_rel (b := vB (mT M)) s2 hq80 i1 i3 i4 (by omega) b1 b2
          have ee : mDrop (mSweep (mAddB (mT M) (nI q) (nI x) (nI y)) (D 2 q) (-1)).1 (vB (mT M)) = am_up (mSweep (mAddB (mT M) (nI q) (nI x) (nI y)) (D 2 q) (-1)).1 0 17 (nI (vB (mT M))) := by
            have := mDrop_end (M := (mSweep (mAddB (mT M) (nI q) (nI x) (nI y)) (D 2 q) (-1)).1)
            rw [hvS] at this
            exact this
          rw [ee] at hr
          exact hr
