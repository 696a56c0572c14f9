/-! ===== the memory: a name's cell by its shape and its ints ===== -/
abbrev am_Sh : Type := (Nat × List Nat) ⊕ (Nat × Nat)
def am_rf (x : Int32) : Value := if x = 0 then .null else .ref x.toNatClampNeg
def am_va (k : Nat) (x : Int32) : Value := match k with
  | 0 => .int x
  | 1 => .int x
  | 2 => am_rf x
  | c + 3 => .ref c
def am_ce (dT : Nat → ClassId) (ρ : Nat → Nat) (h : am_Sh) (f : Nat → Int32) : va_E := match h with
  | .inl q => .inr (q.1, q.2.mapIdx fun i k => am_v ρ (am_va k (f i)))
  | .inr q => .inl (dT q.1, q.2, if q.1 < 2 then .inl f else .inr (.inr (.inr (.inr fun j => (am_o (am_rf (f j))).map ρ))))
def am_W (sh : Nat → am_Sh) (dT : Nat → ClassId) (ρ : Nat → Nat) (N : Nat) (D : am_D) : va_W := (List.range N).map fun n => (ρ n, am_ce dT ρ (sh n) (D n))
def am_Rk (sh : Nat → am_Sh) (N : Nat) (D : am_D) : Prop := (∀ (n : Nat) (q : Nat × List Nat) (i k : Nat), n < N → sh n = .inl q → q.2[i]? = some k → am_okv N (am_va k (D n i))) ∧ ∀ (n : Nat) (q : Nat × Nat) (j : Nat), n < N → sh n = .inr q → 2 ≤ q.1 → am_okv N (am_rf (D n j))
def am_up (D : am_D) (n j : Nat) (x : Int32) : am_D := fun n' j' => if n' = n ∧ j' = j then x else D n' j'
def am_z (D : am_D) (n : Nat) : am_D := fun n' j => if n' = n then 0 else D n' j
theorem am_up_same {D : am_D} {n j : Nat} {x : Int32} : am_up D n j x n j = x := by simp [am_up]
theorem am_W_at {sh : Nat → am_Sh} {dT : Nat → ClassId} {ρ : Nat → Nat} {N : Nat} {D : am_D} {n : Nat} (h : n < N) : (am_W sh dT ρ N D)[n]? = some (ρ n, am_ce dT ρ (sh n) (D n)) := by
  unfold am_W
  rw [List.getElem?_map, List.getElem?_range h]
  rfl
theorem am_W_lt {sh : Nat → am_Sh} {dT : Nat → ClassId} {ρ : Nat → Nat} {N : Nat} {D : am_D} {n : Nat} {q : Nat × va_E} (h : (am_W sh dT ρ N D)[n]? = some q) : n < N := by
  have := (List.getElem?_eq_some_iff.mp h).1
  simpa [am_W] using this
theorem am_W_set {sh : Nat → am_Sh} {dT : Nat → ClassId} {ρ : Nat → Nat} {N : Nat} {D D' : am_D} {n : Nat} {e : va_E} (h : n < N) (he : e = am_ce dT ρ (sh n) (D' n)) (ho : ∀ i, i ≠ n → D' i = D i) : (am_W sh dT ρ N D).set n (ρ n, e) = am_W sh dT ρ N D' := by
  subst he
  apply List.ext_getElem?
  intro i
  by_cases hi : n = i
  · subst hi
    rw [List.getElem?_set_self (by simp [am_W]; exact h), am_W_at h]
  · rw [List.getElem?_set_ne hi]
    by_cases hN : i < N
    · rw [am_W_at hN, am_W_at hN, ho i (Ne.symm hi)]
    · rw [List.getElem?_eq_none (by simp [am_W]; omega), List.getElem?_eq_none (by simp [am_W]; omega)]
theorem am_up_ne {D : am_D} {n j i : Nat} {x : Int32} (h : i ≠ n) : am_up D n j x i = D i := by
  funext q
  simp [am_up, h]
theorem am_z_ne {D : am_D} {n i : Nat} (h : i ≠ n) : am_z D n i = D i := by
  funext q
  simp [am_z, h]
theorem am_okv_rf {N : Nat} {n : Nat} (h : n < N) (h2 : n < 2 ^ 31) : am_okv N (am_rf (Int32.ofNat n)) := by
  unfold am_rf
  split
  · trivial
  · show (Int32.ofNat n).toNatClampNeg < N
    rw [show (Int32.ofNat n).toNatClampNeg = n from nI_clamp h2]
    exact h
/-- the world with a cell more -/
theorem am_W_push {sh : Nat → am_Sh} {dT : Nat → ClassId} {ρ : Nat → Nat} {N q : Nat} {D : am_D} {e : va_E} (hk : am_Rk sh N D) (he : e = am_ce dT (va_up ρ N q) (sh N) (fun _ => 0)) : am_W sh dT ρ N D ++ [(q, e)] = am_W sh dT (va_up ρ N q) (N + 1) (am_z D N) := by
  subst he
  unfold am_W
  rw [List.range_succ, List.map_append, List.map_singleton, va_up_self]
  congr 1
  · apply List.map_congr_left
    intro n hn
    have hn := List.mem_range.mp hn
    have hne : n ≠ N := by omega
    rw [va_up_ne ρ q hne, am_z_ne hne]
    have hag : ∀ i, i < N → va_up ρ N q i = ρ i := fun i hi => va_up_ne ρ q (by omega)
    cases hs : sh n with
    | inl x =>
      show (ρ n, (Sum.inr (x.1, _) : va_E)) = (ρ n, Sum.inr (x.1, _))
      congr 3
      apply List.ext_getElem?
      intro i
      rw [List.getElem?_mapIdx, List.getElem?_mapIdx]
      cases hx : x.2[i]? with
      | none => rfl
      | some k => exact congrArg some (am_v_agree hag (hk.1 n x i k hn hs hx)).symm
    | inr x =>
      unfold am_ce
      dsimp only
      by_cases h2 : x.1 < 2
      · rw [if_pos h2, if_pos h2]
      · rw [if_neg h2, if_neg h2]
        have hf : (fun j => (am_o (am_rf (D n j))).map ρ) = (fun j => (am_o (am_rf (D n j))).map (va_up ρ N q)) := by
          funext j
          have := hk.2 n x j hn hs (by omega)
          cases hv : am_rf (D n j) with
          | ref z =>
            rw [hv] at this
            show some (ρ z) = some (va_up ρ N q z)
            rw [hag z this]
          | _ => rfl
        rw [hf]
  · show [(q, _)] = [(q, _)]
    congr 3
    funext j
    simp [am_z]
def am_Rel (G : va_G) (cl : List vw_C) (dT : Nat → ClassId) (A : Nat → Prop) (H0 : Heap) (sh : Nat → am_Sh) : (Nat → Nat) → am_D → am_A → Heap → List Loc → Prop := fun ρ D a H locs => va_P G cl (am_W sh dT ρ a.1 D) H ∧ va_D A (am_W sh dT ρ a.1 D) ∧ va_S A H0 H locs ∧ am_Rk sh a.1 D
theorem am_Rel.inj {G : va_G} {cl : List vw_C} {dT : Nat → ClassId} {A : Nat → Prop} {H0 : Heap} {sh : Nat → am_Sh} (ρ : Nat → Nat) (D : am_D) (a : am_A) (H : Heap) (locs : List Loc) (h : am_Rel G cl dT A H0 sh ρ D a H locs) : ∀ x y : Nat, x < a.1 → y < a.1 → ρ x = ρ y → x = y :=
  fun x y hx hy e => h.2.1.1 x y _ _ (am_W_at hx) (am_W_at hy) e
abbrev am_ty (dT : Nat → ClassId) : List (ClassId × FieldType) := [(dT 0, .int), (dT 1, .boolean), (dT 2, .object "SeatDesk$Ride"), (dT 3, .array .int)]
def am_kt (k : Nat) (ty : FieldType) : Prop := match k with
  | 0 => ty = .int
  | 1 => ty = .boolean
  | _ => ty.isReference = true
/-- the shapes' kinds are those of the classes' fields -/
def am_SC (cl : List vw_C) (sh : Nat → am_Sh) : Prop := ∀ (n : Nat) (q : Nat × List Nat), sh n = .inl q → ∃ (C : String) (T : u_T) (N : Nat) (ty : Nat → FieldType), cl[q.1]? = some (C, T, N) ∧ q.2.length = N ∧ (∀ k, k < N → parseFieldDescriptor (T k).2.2.1 = some (ty k)) ∧ (∀ a, a < N → ∀ b, b < N → a ≠ b → (T a).2.1 ≠ (T b).2.1) ∧ ∀ j k, q.2[j]? = some k → am_kt k (ty j)
def am_ob (h : am_Sh) (ci : Nat) (c : List Nat → Prop) : Prop := match h with
  | .inl q => q.1 = ci ∧ c q.2
  | .inr _ => False
def am_ar (h : am_Sh) (t : Nat) (c : Nat → Prop) : Prop := match h with
  | .inr q => q.1 = t ∧ c q.2
  | .inl _ => False
def am_n (v : Value) (c : Nat → Prop) : Prop := match v with
  | .ref n => c n
  | _ => False
theorem am_ob_e {h : am_Sh} {ci : Nat} {c : List Nat → Prop} (q : am_ob h ci c) : ∃ ks, h = .inl (ci, ks) ∧ c ks := by
  cases h with
  | inl x => exact ⟨x.2, by rw [← q.1], q.2⟩
  | inr x => exact q.elim
theorem am_ar_e {h : am_Sh} {t : Nat} {c : Nat → Prop} (q : am_ar h t c) : ∃ z, h = .inr (t, z) ∧ c z := by
  cases h with
  | inr x => exact ⟨x.2, by rw [← q.1], q.2⟩
  | inl x => exact q.elim
theorem am_n_e {v : Value} {c : Nat → Prop} (q : am_n v c) : ∃ n, v = .ref n ∧ c n := by
  cases v <;> first | exact ⟨_, rfl, q⟩ | exact q.elim
def am_get (sh : Nat → am_Sh) (q : Nat × Nat) (st : List Value) (D : am_D) (a : am_A) (k : List Value → am_D → am_A → Prop) : Prop := am_p0 st fun v r => am_n v fun n => n < a.1 ∧ am_ob (sh n) q.1 fun ks => q.2 < ks.length ∧ k (am_va (ks.getD q.2 0) (D n q.2) :: r) D a
/-- what may be put into a slot of a kind -/
def am_pv (kd : Nat) (v : Value) (k : Int32 → Prop) : Prop := match kd with
  | 0 => am_i v k
  | 1 => am_i v fun x => (x = 0 ∨ x = 1) ∧ k x
  | 2 => am_n v fun n => 0 < n ∧ n < 2 ^ 31 ∧ k (Int32.ofNat n)
  | _ => False
def am_put (sh : Nat → am_Sh) (q : Nat × Nat) (st : List Value) (D : am_D) (a : am_A) (k : List Value → am_D → am_A → Prop) : Prop := am_p0 st fun v r => am_p0 r fun o r => am_n o fun n => n < a.1 ∧ am_ob (sh n) q.1 fun ks => q.2 < ks.length ∧ am_pv (ks.getD q.2 0) v fun x => k r (am_up D n q.2 x) a
def am_ald (sh : Nat → am_Sh) (t : Nat) (st : List Value) (D : am_D) (a : am_A) (k : List Value → am_D → am_A → Prop) : Prop := am_p1 st fun j r => am_p0 r fun o r => am_n o fun n => n < a.1 ∧ am_ar (sh n) t fun z => vp_in j z ∧ k ((if t < 2 then .int (D n j.toNatClampNeg) else am_rf (D n j.toNatClampNeg)) :: r) D a
def am_ast (sh : Nat → am_Sh) (t : Nat) (st : List Value) (D : am_D) (a : am_A) (k : List Value → am_D → am_A → Prop) : Prop := am_p2 st fun j x r => am_p0 r fun o r => am_n o fun n => n < a.1 ∧ am_ar (sh n) t fun z => vp_in j z ∧ k r (am_up D n j.toNatClampNeg (if t = 0 then x else vp_nar .boolean x)) a
def am_astq (sh : Nat → am_Sh) (st : List Value) (D : am_D) (a : am_A) (k : List Value → am_D → am_A → Prop) : Prop := am_p0 st fun v r => am_p1 r fun j r => am_p0 r fun o r => am_n v fun y => am_n o fun n => 0 < y ∧ y < 2 ^ 31 ∧ n < a.1 ∧ am_ob (sh y) 1 fun _ => am_ar (sh n) 2 fun z => vp_in j z ∧ k r (am_up D n j.toNatClampNeg (Int32.ofNat y)) a
def am_alen (sh : Nat → am_Sh) (st : List Value) (D : am_D) (a : am_A) (k : List Value → am_D → am_A → Prop) : Prop := am_p0 st fun o r => am_n o fun n => n < a.1 ∧ am_ar (sh n) 0 fun z => k (.int (Int32.ofNat z) :: r) D a
def am_new (sh : Nat → am_Sh) (RC RS ci : Nat) (st : List Value) (D : am_D) (a : am_A) (k : List Value → am_D → am_A → Prop) : Prop := am_ob (sh a.1) ci fun ks => (ks.all fun k => decide (k ≤ 2)) = true ∧ a.2.1 + 1 ≤ RC ∧ a.2.2 + ks.length ≤ RS ∧ k (.ref a.1 :: st) (am_z D a.1) (a.1 + 1, a.2.1 + 1, a.2.2 + ks.length)
def am_newa (sh : Nat → am_Sh) (RC RS t : Nat) (st : List Value) (D : am_D) (a : am_A) (k : List Value → am_D → am_A → Prop) : Prop := am_p1 st fun n r => am_ar (sh a.1) t fun z => z = n.toNatClampNeg ∧ ¬ n < 0 ∧ z ≤ 10000 ∧ a.2.1 + 1 ≤ RC ∧ a.2.2 + z ≤ RS ∧ k (.ref a.1 :: r) (am_z D a.1) (a.1 + 1, a.2.1 + 1, a.2.2 + z)
def am_sel (h : am_Sh) (A B : Prop) : Prop := match h with
  | .inr q => if q.1 = 2 then A else B
  | .inl _ => False
/-- the instructions on memory; the rest (calls) by cal -/
def am_Em (sh : Nat → am_Sh) (RC RS : Nat) (fl : Nat → Nat × Nat) (nw : Nat → Nat) (cal : am_M) : am_M := fun i st D a k => match i with
  | .getfield x => am_get sh (fl x) st D a k
  | .putfield x => am_put sh (fl x) st D a k
  | .iaload => am_ald sh 0 st D a k
  | .baload => am_ald sh 1 st D a k
  | .aaload => am_p1 st fun _ r => am_p0 r fun o _ => am_n o fun n => am_sel (sh n) (am_ald sh 2 st D a k) (am_ald sh 3 st D a k)
  | .iastore => am_ast sh 0 st D a k
  | .bastore => am_ast sh 1 st D a k
  | .aastore => am_astq sh st D a k
  | .arraylength => am_alen sh st D a k
  | .new x => am_new sh RC RS (nw x) st D a k
  | .newarray .int => am_newa sh RC RS 0 st D a k
  | .newarray .boolean => am_newa sh RC RS 1 st D a k
  | .anewarray _ => am_newa sh RC RS 2 st D a k
  | i => cal i st D a k
