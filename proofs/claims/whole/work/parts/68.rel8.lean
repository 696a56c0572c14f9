/-! ===== desk and reference: seats found, places settled ===== -/
theorem fs_eq {L : Nat} {t : Int32} (ht : dCl t) : ∀ (l : List Nat) (k : Nat) (D M : am_D), rS L D M → rT L D M → rK L D M → rV L D M → rU M → l.Nodup → (∀ i ∈ l, i < vR M ∧ M 9 i = t ∧ ∀ s, s < 29 → M 12 (29 * i + s) = -1) → (dFs L l k D).2 = (mSeat t l M).2 ∧ ((dFs L l k D).2 = true → rT L (dFs L l k D).1 (mSeat t l M).1 ∧ rU (mSeat t l M).1 ∧ (∀ j i, l[j]? = some i → ∃ q, q < dC D ∧ mCl M q t ∧ (dFs L l k D).1 19 (k + j) = nI q ∧ ∀ s, s < 29 → (mSeat t l M).1 12 (29 * i + s) = if va M i ≤ s ∧ s < vb M i then nI q else -1) ∧ ∀ i, i ∉ l → ∀ s, s < 29 → (mSeat t l M).1 12 (29 * i + s) = M 12 (29 * i + s))
  | [], k, D, M, hS, hT, hK, hV, hU, _, _ => ⟨rfl, fun _ => ⟨hT, hU, fun j i hj => absurd hj (by simp), fun _ _ _ _ => rfl⟩⟩
  | i :: l, k, D, M, hS, hT, hK, hV, hU, hn, hl => by
    obtain ⟨hi, hit, hi0⟩ := hl i (List.mem_cons_self ..)
    have hb := bst_eq hS hT hK hV hi (by rw [hit]; exact ht) hi0
    rw [hit] at hb
    have hL := hV.2.1.2.2.1
    have h80 := hV.2.2.2.1
    have h150 : vR M ≤ 150 := hV.2.1.2.2.2.2.2.2.1
    have hCC : dC D = vF M (vC M) := hS.2.2.2.2.2.1
    obtain ⟨w1, w2, w3, w4, w5, w6, w7⟩ := hV.w hi
    unfold dFs mSeat
    rw [hb]
    rcases mBest_s (M := M) (a := va M i) (b := vb M i) (t := t) (one := nI i) with h1 | ⟨q, hq, h1, hcl, hft⟩
    · rw [h1, if_pos rfl, if_pos (by decide)]
      exact ⟨rfl, fun z => absurd z Bool.false_ne_true⟩
    · rw [h1, if_neg (nI_m1 (by omega)), if_neg (nI_pos (by omega)), nI_clamp (n := q) (by omega), w1, w2]
      obtain ⟨hni, hnl⟩ := List.nodup_cons.mp hn
      have eD : ∀ n j, n ≠ 5 → n ≠ 19 → am_up (am_up D 19 k (nI q)) 5 q (D 5 q ||| wayI (nI (va M i)) (nI (vb M i))) n j = D n j := fun n j z1 z2 => (am_up_at (fun z => z1 z.1)).trans (am_up_at (fun z => z2 z.1))
      have eM : ∀ n j, n ≠ 12 → mSit M i (nI q) n j = M n j := fun n j z => mPut_ne z
      have eC : dC (am_up (am_up D 19 k (nI q)) 5 q (D 5 q ||| wayI (nI (va M i)) (nI (vb M i)))) = dC D := by
        unfold dC
        rw [eD 1 1 (by omega) (by omega)]
      have e19 : am_up (am_up D 19 k (nI q)) 5 q (D 5 q ||| wayI (nI (va M i)) (nI (vb M i))) 19 k = nI q := (am_up_at (fun z => absurd z.1 (by decide))).trans am_up_same
      have hME : mEq M (mSit M i (nI q)) := fun n j z _ => eM n j z
      have hV' : rV L (am_up (am_up D 19 k (nI q)) 5 q (D 5 q ||| wayI (nI (va M i)) (nI (vb M i)))) (mSit M i (nI q)) := hV.eq (eD 1 1 (by omega) (by omega)) (eD 0 4 (by omega) (by omega)) (fun x j => eD _ j (by unfold sd_rn; omega) (by unfold sd_rn; omega)) hME
      have hT' : rT L (am_up (am_up D 19 k (nI q)) 5 q (D 5 q ||| wayI (nI (va M i)) (nI (vb M i)))) (mSit M i (nI q)) := by
        refine sit_T hT hU hV hS.1 hi hi0 (by omega) (fun q' s => ?_)
        by_cases hqq : q' = q
        · subst hqq
          rw [am_up_same, bt_orw (by omega) (by omega)]
          exact ⟨fun z => z.elim Or.inl (fun y => Or.inr ⟨rfl, y⟩), fun z => z.elim Or.inl (fun y => Or.inr y.2)⟩
        · rw [am_up_at (fun z => hqq z.2), am_up_at (fun z => absurd z.1 (by decide))]
          exact ⟨Or.inl, fun z => z.elim id (fun y => absurd y.1 hqq)⟩
      obtain ⟨r1, r2⟩ := fs_eq ht l (k + 1) (am_up (am_up D 19 k (nI q)) 5 q (D 5 q ||| wayI (nI (va M i)) (nI (vb M i)))) (mSit M i (nI q)) (hS.eq (fun n j z => eD n j (by omega) (by omega)) (fun n j z => eM n j (by omega))) hT' (hK.eq (eD 1 1 (by omega) (by omega)) (fun x => eD 2 x (by omega) (by omega)) (fun x => eD 6 x (by omega) (by omega)) (eM 0 17 (by omega)) (fun n j z => eM n j (by omega))) hV' (sit_U hU hV.2.2.1 h150 hL hi (by omega) hft) hnl (fun x hx => by
        obtain ⟨y1, y2, y3⟩ := hl x (List.mem_cons_of_mem _ hx)
        have hne : x ≠ i := fun z => hni (z ▸ hx)
        refine ⟨by rw [hME.R]; exact y1, (eM 9 x (by omega)).trans y2, fun s hs => ?_⟩
        rw [mSit_row hV.2.2.1 hL hi hs, if_neg hne]
        exact y3 s hs)
      refine ⟨r1, fun htrue => ?_⟩
      obtain ⟨r3, r4, r5, r6⟩ := r2 htrue
      refine ⟨r3, r4, fun j x hj => ?_, fun x hx s hs => ?_⟩
      · cases j with
        | zero =>
          obtain rfl : i = x := by simpa using hj
          refine ⟨q, by omega, hcl, ?_, fun s hs => ?_⟩
          · exact ((dFs_19 l (k + 1) _ htrue (by omega)).1 k (by omega)).trans e19
          · rw [r6 i hni s hs, mSit_row hV.2.2.1 hL hi hs, if_pos rfl]
        | succ j =>
          have hj' : l[j]? = some x := by simpa using hj
          obtain ⟨q', z1, z0, z2, z3⟩ := r5 j x hj'
          refine ⟨q', by omega, (mCl_c (fun j => ⟨eM 1 j (by omega), eM 2 j (by omega), eM 3 j (by omega)⟩)).mp z0, by rw [← z2, show k + (j + 1) = k + 1 + j by omega], fun s hs => ?_⟩
          rw [z3 s hs, hME.a, hME.b]
      · rw [r6 x (fun z => hx (List.mem_cons_of_mem _ z)) s hs, mSit_row hV.2.2.1 hL hi hs, if_neg (fun z => hx (by rw [z]; exact List.mem_cons_self ..))]
theorem dUp_bt {q s : Nat} (hq : q < 80) (hs : s < 32) : ∀ (l : List Nat) (D : am_D), (∀ i ∈ l, D (sd_rn i) 2 = nI (da D i) ∧ D (sd_rn i) 3 = nI (db D i) ∧ da D i ≤ db D i ∧ db D i ≤ 29 ∧ (D (sd_pn i) (da D i) = -1 ∨ ∃ q, q < 80 ∧ D (sd_pn i) (da D i) = nI q)) → (bt (dUp l D 5 q) s ↔ bt (D 5 q) s ∧ ∀ i ∈ l, ¬ (D (sd_pn i) (da D i) = nI q ∧ da D i ≤ s ∧ s < db D i))
  | [], D, _ => ⟨fun h => ⟨h, fun i hi => absurd hi (by simp)⟩, fun h => h.1⟩
  | i :: l, D, hl => by
    obtain ⟨h2, h3, hab, hb, hp⟩ := hl i (List.mem_cons_self ..)
    unfold dUp
    by_cases h1 : D (sd_pn i) (da D i) = -1
    · rw [if_pos h1, dUp_bt hq hs l D (fun x hx => hl x (List.mem_cons_of_mem _ hx))]
      constructor
      · rintro ⟨z1, z2⟩
        refine ⟨z1, fun x hx => ?_⟩
        rcases List.mem_cons.mp hx with rfl | hx
        · rw [h1]
          exact fun z => nI_m1 (by omega) z.1.symm
        · exact z2 x hx
      · rintro ⟨z1, z2⟩
        exact ⟨z1, fun x hx => z2 x (List.mem_cons_of_mem _ hx)⟩
    · obtain ⟨p, hp80, hpe⟩ := hp.resolve_left h1
      rw [if_neg h1, hpe, nI_clamp (n := p) (by omega), h2, h3]
      have e : ∀ n j, n ≠ 5 → am_up D 5 p (D 5 p &&& (wayI (nI (da D i)) (nI (db D i)) ^^^ -1)) n j = D n j := fun n j z => am_up_at (fun y => z y.1)
      have er : ∀ x j, am_up D 5 p (D 5 p &&& (wayI (nI (da D i)) (nI (db D i)) ^^^ -1)) (sd_rn x) j = D (sd_rn x) j := fun x j => e _ j (by unfold sd_rn; omega)
      have ep : ∀ x j, am_up D 5 p (D 5 p &&& (wayI (nI (da D i)) (nI (db D i)) ^^^ -1)) (sd_pn x) j = D (sd_pn x) j := fun x j => e _ j (by unfold sd_pn; omega)
      have ea : ∀ x, da (am_up D 5 p (D 5 p &&& (wayI (nI (da D i)) (nI (db D i)) ^^^ -1))) x = da D x := fun x => da_eq (er x 2)
      have eb : ∀ x, db (am_up D 5 p (D 5 p &&& (wayI (nI (da D i)) (nI (db D i)) ^^^ -1))) x = db D x := fun x => db_eq (er x 3)
      rw [dUp_bt hq hs l _ (fun x hx => by
        rw [er, er, ea, eb, ep]
        exact hl x (List.mem_cons_of_mem _ hx))]
      have hb5 : bt (am_up D 5 p (D 5 p &&& (wayI (nI (da D i)) (nI (db D i)) ^^^ -1)) 5 q) s ↔ bt (D 5 q) s ∧ ¬ (D (sd_pn i) (da D i) = nI q ∧ da D i ≤ s ∧ s < db D i) := by
        by_cases hqp : q = p
        · subst hqp
          rw [am_up_same, bt_off hab hb hs]
          exact ⟨fun z => ⟨z.1, fun y => z.2 y.2⟩, fun z => ⟨z.1, fun y => z.2 ⟨hpe, y⟩⟩⟩
        · rw [am_up_at (fun z => hqp z.2)]
          refine ⟨fun z => ⟨z, fun y => ?_⟩, fun z => z.1⟩
          rw [hpe, nI_inji (by omega) (by omega)] at y
          exact hqp y.1.symm
      rw [hb5]
      constructor
      · rintro ⟨⟨z1, z2⟩, z3⟩
        refine ⟨z1, fun x hx => ?_⟩
        rcases List.mem_cons.mp hx with rfl | hx
        · exact z2
        · have := z3 x hx
          rw [ea, eb, ep] at this
          exact this
      · rintro ⟨z1, z2⟩
        refine ⟨⟨z1, z2 i (List.mem_cons_self ..)⟩, fun x hx => ?_⟩
        rw [ea, eb, ep]
        exact z2 x (List.mem_cons_of_mem _ hx)
def dStD (bt : Option Nat) (i k : Nat) (D : am_D) : am_D := dPl (if ¬ some i = bt ∧ ¬ D (sd_pn i) (da D i) = D 19 k then am_up D 0 6 (D 0 6 + 1) else D) i (da D i) (db D i) (D 19 k)
theorem dStD_ne {bt : Option Nat} {i k n j : Nat} {D : am_D} (h0 : ¬ (n = 0 ∧ j = 6)) (h1 : n ≠ sd_pn i) : dStD bt i k D n j = D n j := by
  unfold dStD
  rw [dPl_ne h1]
  by_cases h : ¬ some i = bt ∧ ¬ D (sd_pn i) (da D i) = D 19 k
  · rw [if_pos h, am_up_at h0]
  · rw [if_neg h]
theorem dStD_pn {bt : Option Nat} {i k j : Nat} {D : am_D} : dStD bt i k D (sd_pn i) j = if da D i ≤ j ∧ j < db D i then D 19 k else D (sd_pn i) j := by
  unfold dStD
  rw [dPl_at]
  by_cases h : ¬ some i = bt ∧ ¬ D (sd_pn i) (da D i) = D 19 k
  · rw [if_pos h, am_up_at (fun z => by have := z.1; unfold sd_pn at this; omega)]
  · rw [if_neg h]
theorem dStD_a {bt : Option Nat} {i k x : Nat} {D : am_D} : da (dStD bt i k D) x = da D x := da_eq (dStD_ne (fun z => by have := z.1; unfold sd_rn at this; omega) (sd_ne x i))
theorem dStD_b {bt : Option Nat} {i k x : Nat} {D : am_D} : db (dStD bt i k D) x = db D x := db_eq (dStD_ne (fun z => by have := z.1; unfold sd_rn at this; omega) (sd_ne x i))
theorem dSt_row {bt : Option Nat} : ∀ (l : List Nat) (k : Nat) (D : am_D), l.Nodup → (∀ j i, l[j]? = some i → ∀ s, dSt bt l k D (sd_pn i) s = if da D i ≤ s ∧ s < db D i then D 19 (k + j) else D (sd_pn i) s) ∧ ∀ i, i ∉ l → ∀ s, dSt bt l k D (sd_pn i) s = D (sd_pn i) s
  | [], k, D, _ => ⟨fun j i hj => absurd hj (by simp), fun _ _ _ => rfl⟩
  | x :: l, k, D, hn => by
    obtain ⟨hni, hnl⟩ := List.nodup_cons.mp hn
    obtain ⟨r1, r2⟩ := dSt_row (bt := bt) l (k + 1) (dStD bt x k D) hnl
    have e19 : ∀ j, dStD bt x k D 19 j = D 19 j := fun j => dStD_ne (by omega) (by unfold sd_pn; omega)
    refine ⟨fun j i hj s => ?_, fun i hi s => ?_⟩
    · show dSt bt l (k + 1) (dStD bt x k D) (sd_pn i) s = _
      cases j with
      | zero =>
        obtain rfl : x = i := by simpa using hj
        rw [r2 x hni s, dStD_pn, Nat.add_zero]
      | succ j =>
        have hj' : l[j]? = some i := by simpa using hj
        have hne : i ≠ x := fun z => hni (z ▸ List.mem_of_getElem? hj')
        rw [r1 j i hj' s, dStD_a, dStD_b, e19, dStD_ne (fun z => by have := z.1; unfold sd_pn at this; omega) (sd_pp hne), show k + 1 + j = k + (j + 1) by omega]
    · show dSt bt l (k + 1) (dStD bt x k D) (sd_pn i) s = _
      rw [r2 i (fun z => hi (List.mem_cons_of_mem _ z)) s]
      exact dStD_ne (fun z => by have := z.1; unfold sd_pn at this; omega) (sd_pp (fun z => hi (by rw [z]; exact List.mem_cons_self ..)))
theorem am_cnt_ins {p : Nat → Prop} {x : Nat} (hx : ¬ p x) : ∀ (f i acc : Nat), i ≤ x → x < i + f → am_cnt (fun j => j = x ∨ p j) f i acc = am_cnt p f i acc + 1
  | 0, i, acc, h1, h2 => absurd h1 (by omega)
  | f + 1, i, acc, h1, h2 => by
    by_cases hi : i = x
    · subst hi
      rw [am_cnt_t (p := fun j => j = i ∨ p j) (Or.inl rfl), am_cnt_f hx, am_cnt_s]
      congr 1
      exact am_cnt_c f (i + 1) acc (fun j z1 z2 => ⟨fun y => y.resolve_left (by omega), Or.inr⟩)
    · by_cases hp : p i
      · rw [am_cnt_t (p := fun j => j = x ∨ p j) (Or.inr hp), am_cnt_t hp]
        exact am_cnt_ins hx f (i + 1) _ (by omega) (by omega)
      · rw [am_cnt_f (p := fun j => j = x ∨ p j) (fun y => y.elim hi hp), am_cnt_f hp]
        exact am_cnt_ins hx f (i + 1) _ (by omega) (by omega)
theorem dSt_06 {bt : Option Nat} {n : Nat} : ∀ (l : List Nat) (k : Nat) (D : am_D), l.Nodup → (∀ i ∈ l, i < n) → dSt bt l k D 0 6 = D 0 6 + nI (am_cnt (fun r => ∃ j, l[j]? = some r ∧ ¬ some r = bt ∧ ¬ D (sd_pn r) (da D r) = D 19 (k + j)) n 0 0)
  | [], k, D, _, _ => by
    have e : am_cnt (fun r => ∃ j, ([] : List Nat)[j]? = some r ∧ ¬ some r = bt ∧ ¬ D (sd_pn r) (da D r) = D 19 (k + j)) n 0 0 = 0 := by
      have : ∀ f i, am_cnt (fun r => ∃ j, ([] : List Nat)[j]? = some r ∧ ¬ some r = bt ∧ ¬ D (sd_pn r) (da D r) = D 19 (k + j)) f i 0 = 0 := by
        intro f
        induction f with
        | zero => intro i; rfl
        | succ f ih =>
          intro i
          rw [am_cnt_f (fun ⟨j, hj, _⟩ => absurd hj (by simp))]
          exact ih (i + 1)
      exact this n 0
    rw [e, nI_0, Int32.add_zero]
    rfl
  | x :: l, k, D, hn, hl => by
    obtain ⟨hni, hnl⟩ := List.nodup_cons.mp hn
    have ih := dSt_06 (bt := bt) (n := n) l (k + 1) (dStD bt x k D) hnl (fun i hi => hl i (List.mem_cons_of_mem _ hi))
    have e19 : ∀ j, dStD bt x k D 19 j = D 19 j := fun j => dStD_ne (by omega) (by unfold sd_pn; omega)
    have hx : x < n := hl x (List.mem_cons_self ..)
    have eP : ∀ r, (∃ j, l[j]? = some r ∧ ¬ some r = bt ∧ ¬ dStD bt x k D (sd_pn r) (da (dStD bt x k D) r) = dStD bt x k D 19 (k + 1 + j)) ↔ ∃ j, l[j]? = some r ∧ ¬ some r = bt ∧ ¬ D (sd_pn r) (da D r) = D 19 (k + 1 + j) := fun r => by
      constructor <;> rintro ⟨j, z1, z2, z3⟩ <;> refine ⟨j, z1, z2, ?_⟩
      · have hne : r ≠ x := fun z => hni (z ▸ List.mem_of_getElem? z1)
        rw [dStD_a, e19, dStD_ne (fun z => by have := z.1; unfold sd_pn at this; omega) (sd_pp hne)] at z3
        exact z3
      · have hne : r ≠ x := fun z => hni (z ▸ List.mem_of_getElem? z1)
        rw [dStD_a, e19, dStD_ne (fun z => by have := z.1; unfold sd_pn at this; omega) (sd_pp hne)]
        exact z3
    have eQ : ∀ r, (∃ j, (x :: l)[j]? = some r ∧ ¬ some r = bt ∧ ¬ D (sd_pn r) (da D r) = D 19 (k + j)) ↔ (r = x ∧ ¬ some x = bt ∧ ¬ D (sd_pn x) (da D x) = D 19 k) ∨ ∃ j, l[j]? = some r ∧ ¬ some r = bt ∧ ¬ D (sd_pn r) (da D r) = D 19 (k + 1 + j) := fun r => by
      constructor
      · rintro ⟨j, z1, z2, z3⟩
        cases j with
        | zero =>
          obtain rfl : x = r := by simpa using z1
          exact Or.inl ⟨rfl, z2, z3⟩
        | succ j => exact Or.inr ⟨j, by simpa using z1, z2, by rw [show k + 1 + j = k + (j + 1) by omega]; exact z3⟩
      · rintro (⟨rfl, z2, z3⟩ | ⟨j, z1, z2, z3⟩)
        · exact ⟨0, by simp, z2, z3⟩
        · exact ⟨j + 1, by simpa using z1, z2, by rw [show k + (j + 1) = k + 1 + j by omega]; exact z3⟩
    rw [am_cnt_c _ _ _ (fun r _ _ => eP r)] at ih
    show dSt bt l (k + 1) (dStD bt x k D) 0 6 = _
    rw [ih, am_cnt_c _ _ _ (fun r _ _ => eQ r)]
    by_cases hc : ¬ some x = bt ∧ ¬ D (sd_pn x) (da D x) = D 19 k
    · have e0 : dStD bt x k D 0 6 = D 0 6 + 1 := by
        unfold dStD
        rw [dPl_ne (by unfold sd_pn; omega), if_pos hc, am_up_same]
      rw [e0, am_cnt_c (q := fun j => j = x ∨ ∃ j', l[j']? = some j ∧ ¬ some j = bt ∧ ¬ D (sd_pn j) (da D j) = D 19 (k + 1 + j')) _ _ _ (fun r _ _ => ⟨fun z => z.imp (fun y => y.1) id, fun z => z.imp (fun y => ⟨y, hc⟩) id⟩), am_cnt_ins (fun ⟨j, z, _⟩ => hni (List.mem_of_getElem? z)) n 0 0 (by omega) (by omega), nI_succ, Int32.add_assoc, Int32.add_comm 1]
    · have e0 : dStD bt x k D 0 6 = D 0 6 := by
        unfold dStD
        rw [dPl_ne (by unfold sd_pn; omega), if_neg hc]
      rw [e0, am_cnt_c (q := fun j => ∃ j', l[j']? = some j ∧ ¬ some j = bt ∧ ¬ D (sd_pn j) (da D j) = D 19 (k + 1 + j')) _ _ _ (fun r _ _ => ⟨fun z => z.elim (fun y => absurd y.2 hc) id, Or.inr⟩)]
