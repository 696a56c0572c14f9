/-! ===== all that a program decides of a method's blocks; its contract; the shapes of the two worlds ===== -/
def am_wch (cl : List vw_C) (Ts : List Cond) (cs : List Nat) : Bool := cs.all fun ci => match cl[ci]? with
  | some r => (u_ws r.1 r.2.1 r.2.2).all fun w => decide (w ∈ Ts)
  | none => true
def am_all (cc : ByteArray) (cl : List vw_C) (Ts : List Cond) (own : String) (fl : Nat → Nat × Nat) (nw : Nat → Nat) (ini : Bool) (cs : List Nat) (bs : List (Nat × List (Instr × Nat))) : Bool := am_oks cc bs && (am_lens bs && (am_fchs cl Ts own fl nw ini bs && (am_cchs cs fl nw bs && am_wch cl Ts cs)))
theorem am_cl1 : ∃ (T : u_T) (N : Nat), vwCl[1]? = some ("SeatDesk$Ride", T, N) := ⟨TX1, 8, rfl⟩
/-- what a method's calls are owed -/
def am_CS (l : Launch) (cc : ByteArray) (sh : Nat → am_Sh) (ws : List Cond) (rm : Room) (maxL : Nat) (y : MethodName) (bs : List (Nat × List (Instr × Nat))) (cal : am_M) : Prop := ∀ (p : Program) (e : Env) (s : State) (m : MethodId) (args : Array Value) (below : List Frame) (meth : Method) (c : Code) (Qw : State → Prop) (G : va_G) (dT : Nat → ClassId) (A : Nat → Prop) (H0 : Heap), p.tables.exec = Jvm.exec → c.code = cc → c.maxLocals = maxL → (∀ w ∈ ws, w.before args s = true) → s.vm.findClass y.cls = some m.cls → meth.name = y.name → va_K G vwCl (am_ty dT) s → am_Gl s → (∀ q, H0.size ≤ q → A q) → am_ES p l e rm s m args below meth c Qw maxL cc (am_Rel G vwCl dT A H0 sh) (am_U bs) cal
def am_none : am_M := fun _ _ _ _ _ => False
theorem am_none_s {l : Launch} {cc : ByteArray} {sh : Nat → am_Sh} {ws : List Cond} {rm : Room} {maxL : Nat} {y : MethodName} {bs : List (Nat × List (Instr × Nat))} : am_CS l cc sh ws rm maxL y bs am_none := fun _ _ _ _ _ _ _ _ _ _ _ _ _ _ _ _ _ _ _ _ _ _ => fun _ _ _ _ _ _ _ _ _ _ h => h.elim
def am_Qr (ret : Option FieldType) (mc ms N : Nat) (k : Option Value → am_D → Nat → Prop) : am_R := fun v D' a' => am_ro ret v ∧ a'.2.1 ≤ mc ∧ a'.2.2 ≤ ms ∧ k v D' a'.1 ∧ N ≤ a'.1
theorem am_mk {l : Launch} {cc : ByteArray} {sh : Nat → am_Sh} {y : MethodName} {ws ws' : List Cond} {rm : Room} {maxL : Nat} {ret : Option FieldType} {P : am_P} {fl : Nat → Nat × Nat} {nw : Nat → Nat} {ini : Bool} {cs : List Nat} {bs : List (Nat × List (Instr × Nat))} {cal : am_M}
    (hall : am_all cc vwCl ws y.cls fl nw ini cs bs = true) (hsc : am_SC vwCl sh) (hy : plainName y.cls = true) (hw : ws = Cond.code y cc maxL ret :: ws') (hret : ret = none ∨ ret = some .int ∨ ret = some .boolean ∨ ∃ C, ret = some (.object C)) (hini : ini = true → y.name = "<init>") (hcal : am_CS l cc sh ws rm maxL y bs cal)
    (hP : ∀ (vs : List Value) (D : am_D) (N : Nat) (k : Option Value → am_D → Nat → Prop), P vs D N k → vs.length ≤ maxL ∧ ∀ K : am_K, am_C (am_Em sh rm.cells rm.slots fl nw cal) bs K (am_Qr ret rm.cells rm.slots N k) → K 0 (vs ++ List.replicate (maxL - vs.length) am_u) [] D (N, 0, 0)) : am_Ctr l vwCl sh y ws rm rm.cells rm.slots P := by
  obtain ⟨h1, h2⟩ := (Bool.and_eq_true _ _).mp hall
  obtain ⟨h2, h3⟩ := (Bool.and_eq_true _ _).mp h2
  obtain ⟨h3, h4⟩ := (Bool.and_eq_true _ _).mp h3
  obtain ⟨h4, h5⟩ := (Bool.and_eq_true _ _).mp h4
  refine am_ofW (cl := vwCl) hy hw hret bs h1 h2 (am_Em sh rm.cells rm.slots fl nw cal) ?_ hP
  intro p e s m args below meth c Qw G dT A H0 hx hb hml hts hown hnm hK hGl hA
  refine am_Em_s hx hb hown hts hK hGl hsc am_cl1 hA (cs := cs) ?_ h3 h4 (fun q => hnm.trans (hini q)) (hcal p e s m args below meth c Qw G dT A H0 hx hb hml hts hown hnm hK hGl hA)
  intro ci hci C T N hr w hw'
  have := List.all_eq_true.mp h5 ci hci
  rw [hr] at this
  exact of_decide_eq_true (List.all_eq_true.mp this w hw')
/-- the desk's world: 0 the desk, 1 its seats (2 type, 3 told, 4 marks, 5 taken, 6 kept, 7 there, 8 first), 9 its blocks (10 places, 11 ways), 12 rides, 13 quotas (14 to 17), 18 queue, 19 found, 20 takenBefore; then 21 + 2 i a ride, 22 + 2 i its places -/
def sd_sh (L : Nat) : Nat → am_Sh := fun n => match n with
  | 0 => .inl (3, [0, 4, 12, 15, 0, 16, 0, 21, 22, 23])
  | 1 => .inl (2, [0, 0, 5, 6, 7, 8, 9, 0, 10, 11])
  | 2 => .inr (0, 80)
  | 3 => .inr (0, 80)
  | 4 => .inr (0, 80)
  | 5 => .inr (0, 80)
  | 6 => .inr (0, 80)
  | 7 => .inr (1, 8)
  | 8 => .inr (0, 9)
  | 9 => .inl (0, [13, 14, 0])
  | 10 => .inr (0, 512)
  | 11 => .inr (0, 512)
  | 12 => .inr (2, 150)
  | 13 => .inr (3, 4)
  | 14 => .inr (0, L)
  | 15 => .inr (0, L)
  | 16 => .inr (0, L)
  | 17 => .inr (0, L)
  | 18 => .inr (2, 150)
  | 19 => .inr (0, 150)
  | 20 => .inr (0, 80)
  | n + 21 => if n % 2 = 0 then .inl (1, [0, 2, 0, 0, 0, 0, 0, 1]) else .inr (0, L)
/-- the reference's world: 0 the object, 1 first, 2 type, 3 gone, 4 mask, 5 quotas, 6 state, 7 start, 8 stop, 9 kind, 10 agencyOf, 11 printed, 12 seats, 13 saved, 14 blockSeat, 15 blockFrom, 16 blockTo, 17 lost -/
def sm_sh : Nat → am_Sh := fun n => match n with
  | 0 => .inl (4, [0, 0, 0, 4, 5, 6, 7, 8, 0, 9, 10, 11, 12, 13, 14, 15, 16, 0, 17, 18, 19, 0, 20])
  | 1 => .inr (0, 9)
  | 2 => .inr (0, 8)
  | 3 => .inr (1, 8)
  | 4 => .inr (0, 80)
  | 5 => .inr (0, 116)
  | 6 => .inr (0, 150)
  | 7 => .inr (0, 150)
  | 8 => .inr (0, 150)
  | 9 => .inr (0, 150)
  | 10 => .inr (0, 150)
  | 11 => .inr (1, 150)
  | 12 => .inr (0, 4350)
  | 13 => .inr (0, 4350)
  | 14 => .inr (0, 600)
  | 15 => .inr (0, 600)
  | 16 => .inr (0, 600)
  | 17 => .inr (1, 150)
  | _ => .inr (0, 0)
def am_ktb (k : Nat) (ty : FieldType) : Bool := match k with
  | 0 => decide (ty = .int)
  | 1 => decide (ty = .boolean)
  | _ => ty.isReference
theorem am_ktb_s {k : Nat} {ty : FieldType} (h : am_ktb k ty = true) : am_kt k ty := by
  match k, h with
  | 0, h => exact (show ty = .int from of_decide_eq_true h)
  | 1, h => exact (show ty = .boolean from of_decide_eq_true h)
  | _ + 2, h => exact h
theorem am_ktl {ks : List Nat} {ty : Nat → FieldType} (h : (ks.zipIdx.all fun q => am_ktb q.1 (ty q.2)) = true) : ∀ j k, ks[j]? = some k → am_kt k (ty j) := fun j k hj => am_ktb_s (List.all_eq_true.mp h (k, j) (List.mk_mem_zipIdx_iff_getElem?.mpr hj))
theorem sm_sc : am_SC vwCl sm_sh := by
  intro n q hq
  unfold sm_sh at hq
  split at hq <;> cases hq
  exact ⟨RX4, TX4, 23, tyX4, rfl, rfl, tyX4_ok, nmX4, am_ktl (by decide +kernel)⟩
theorem sd_sc (L : Nat) : am_SC vwCl (sd_sh L) := by
  intro n q hq
  unfold sd_sh at hq
  split at hq <;> first | (cases hq; done) | skip
  · cases hq
    exact ⟨RX3, TX3, 10, tyX3, rfl, rfl, tyX3_ok, nmX3, am_ktl (by decide +kernel)⟩
  · cases hq
    exact ⟨RX2, TX2, 10, tyX2, rfl, rfl, tyX2_ok, nmX2, am_ktl (by decide +kernel)⟩
  · cases hq
    exact ⟨RX0, TX0, 3, tyX0, rfl, rfl, tyX0_ok, nmX0, am_ktl (by decide +kernel)⟩
  · split at hq
    · cases hq
      exact ⟨RX1, TX1, 8, tyX1, rfl, rfl, tyX1_ok, nmX1, am_ktl (by decide +kernel)⟩
    · cases hq
