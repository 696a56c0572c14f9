/-! ===== values by names, locals; the abstract machine is sound over the kit's W ===== -/
def am_v (ρ : Nat → Nat) (v : Value) : Value := match v with
  | .ref n => .ref (ρ n)
  | v => v
def am_okv (N : Nat) (v : Value) : Prop := match v with
  | .int _ => True
  | .null => True
  | .ref n => n < N
  | _ => False
theorem am_okv_mono {N N' : Nat} (h : N ≤ N') {v : Value} (hv : am_okv N v) : am_okv N' v := by
  cases v <;> first | exact trivial | exact Nat.lt_of_lt_of_le hv h | exact hv.elim
theorem am_okv_cat {N : Nat} {v : Value} (hv : am_okv N v) : v.category = 1 := by
  cases v <;> first | rfl | exact hv.elim
theorem am_v_cat {ρ : Nat → Nat} {N : Nat} {v : Value} (hv : am_okv N v) : (am_v ρ v).category = 1 := by
  cases v <;> first | rfl | exact hv.elim
theorem am_v_agree {ρ ρ' : Nat → Nat} {N : Nat} (h : ∀ n, n < N → ρ' n = ρ n) {v : Value} (hv : am_okv N v) : am_v ρ' v = am_v ρ v := by
  cases v <;> first | rfl | (show Value.ref _ = Value.ref _; rw [h _ hv])
theorem am_v_map {ρ ρ' : Nat → Nat} {N : Nat} (h : ∀ n, n < N → ρ' n = ρ n) {st : List Value} (hv : ∀ v ∈ st, am_okv N v) : st.map (am_v ρ') = st.map (am_v ρ) := List.map_congr_left fun v hm => am_v_agree h (hv v hm)
/-- the locals that are known, by their places -/
def am_al (ρ : Nat → Nat) (L : List Value) : List (Nat × Value) := (List.range L.length).filterMap fun j => match L[j]? with
  | some v => if v = am_u then none else some (j, am_v ρ v)
  | none => none
theorem am_al_mem {ρ : Nat → Nat} {L : List Value} {j : Nat} {w : Value} : (j, w) ∈ am_al ρ L ↔ ∃ v, L[j]? = some v ∧ ¬ v = am_u ∧ w = am_v ρ v := by
  unfold am_al
  rw [List.mem_filterMap]
  constructor
  · rintro ⟨i, hi, h⟩
    cases hv : L[i]? with
    | none => rw [hv] at h; cases h
    | some v =>
      rw [hv] at h
      dsimp only at h
      by_cases hu : v = am_u
      · rw [if_pos hu] at h; cases h
      · rw [if_neg hu] at h
        cases h
        exact ⟨v, hv, hu, rfl⟩
  · rintro ⟨v, hv, hu, rfl⟩
    refine ⟨j, List.mem_range.mpr (List.getElem?_eq_some_iff.mp hv).1, ?_⟩
    rw [hv]
    dsimp only
    rw [if_neg hu]
def am_LL (ρ : Nat → Nat) (N nL : Nat) (L : List Value) (ls : Array Slot) : Prop := L.length = nL ∧ (∀ (j : Nat) (v : Value), L[j]? = some v → ¬ v = am_u → am_okv N v) ∧ lv_has ls nL (am_al ρ L)
theorem am_LL.get {ρ : Nat → Nat} {N nL : Nat} {L : List Value} {ls : Array Slot} (h : am_LL ρ N nL L ls) {j : Nat} {v : Value} (hv : L.getD j am_u = v) (hu : ¬ v = am_u) : ls[j]? = some (.val (am_v ρ v)) ∧ am_okv N v ∧ (j, am_v ρ v) ∈ am_al ρ L ∧ j < nL := by
  have hj : L[j]? = some v := by
    rw [List.getD_eq_getElem?_getD] at hv
    cases hx : L[j]? with
    | none => rw [hx] at hv; exact absurd hv.symm hu
    | some w => rw [hx] at hv; exact congrArg some hv
  have hm : (j, am_v ρ v) ∈ am_al ρ L := am_al_mem.mpr ⟨v, hj, hu, rfl⟩
  exact ⟨h.2.2.2.2 _ hm, h.2.1 j v hj hu, hm, by rw [← h.1]; exact (List.getElem?_eq_some_iff.mp hj).1⟩
theorem am_LL.set {ρ : Nat → Nat} {N nL : Nat} {L : List Value} {ls ls' : Array Slot} (h : am_LL ρ N nL L ls) {i : Nat} {w : Value} (hw : am_okv N w) (hs : lv_has ls' nL ((i, am_v ρ w) :: (am_al ρ L).filter (fun q => !(q.1 == i) && !(q.1 + 1 == i && q.2.category == 2)))) : am_LL ρ N nL (L.set i w) ls' := by
  have key : ∀ (j : Nat) (v : Value), (L.set i w)[j]? = some v → ¬ v = am_u → am_okv N v ∧ (j, am_v ρ v) ∈ ((i, am_v ρ w) :: (am_al ρ L).filter (fun q => !(q.1 == i) && !(q.1 + 1 == i && q.2.category == 2))) := by
    intro j v hj hu
    by_cases hji : i = j
    · subst hji
      have hl : i < L.length := by
        have := (List.getElem?_eq_some_iff.mp hj).1
        simpa using this
      rw [List.getElem?_set_self hl] at hj
      cases hj
      exact ⟨hw, List.mem_cons_self⟩
    · rw [List.getElem?_set_ne hji] at hj
      have ho := h.2.1 j v hj hu
      refine ⟨ho, List.mem_cons_of_mem _ (List.mem_filter.mpr ⟨am_al_mem.mpr ⟨v, hj, hu, rfl⟩, ?_⟩)⟩
      have hc := am_v_cat (ρ := ρ) ho
      simp [hc, Ne.symm hji]
  refine ⟨by rw [List.length_set]; exact h.1, fun j v hj hu => (key j v hj hu).1, hs.1, hs.2.1, fun q hq => ?_⟩
  obtain ⟨j, x⟩ := q
  obtain ⟨v, hj, hu, rfl⟩ := am_al_mem.mp hq
  exact hs.2.2 _ (key j v hj hu).2
theorem am_LL.agree {ρ ρ' : Nat → Nat} {N N' nL : Nat} {L : List Value} {ls : Array Slot} (h : am_LL ρ N nL L ls) (hN : N ≤ N') (hρ : ∀ n, n < N → ρ' n = ρ n) : am_LL ρ' N' nL L ls := by
  refine ⟨h.1, fun j v hj hu => am_okv_mono hN (h.2.1 j v hj hu), h.2.2.1, h.2.2.2.1, fun q hq => ?_⟩
  obtain ⟨j, x⟩ := q
  obtain ⟨v, hj, hu, rfl⟩ := am_al_mem.mp hq
  refine h.2.2.2.2 (j, am_v ρ' v) ?_
  exact am_al_mem.mpr ⟨v, hj, hu, am_v_agree hρ (h.2.1 j v hj hu)⟩
def am_o (v : Value) : Option Nat := match v with
  | .ref n => some n
  | _ => none
theorem am_v_rf {ρ : Nat → Nat} {v : Value} (h : (∃ n, v = .ref n) ∨ v = .null) : am_v ρ v = va_rf ((am_o v).map ρ) := by
  rcases h with ⟨n, rfl⟩ | rfl <;> rfl
theorem am_o_inj {ρ : Nat → Nat} {N : Nat} (hI : ∀ x y : Nat, x < N → y < N → ρ x = ρ y → x = y) {v w : Value} (h1 : (∃ n, v = .ref n) ∨ v = .null) (h2 : (∃ n, w = .ref n) ∨ w = .null) (o1 : am_okv N v) (o2 : am_okv N w) : (am_o v).map ρ = (am_o w).map ρ ↔ v = w := by
  rcases h1 with ⟨n, rfl⟩ | rfl <;> rcases h2 with ⟨k, rfl⟩ | rfl
  · constructor
    · intro q
      rw [hI n k o1 o2 (Option.some.inj q)]
    · intro q
      cases q
      rfl
  · exact ⟨fun q => (by cases q), fun q => (by cases q)⟩
  · exact ⟨fun q => (by cases q), fun q => (by cases q)⟩
  · exact ⟨fun _ => rfl, fun _ => rfl⟩
def am_lenok (i : Instr) (n : Nat) : Bool := match i with
  | .tableswitch _ _ _ _ => true
  | .iconst _ | .aconst_null | .iload_n _ | .aload_n _ | .istore_n _ | .astore_n _ | .iadd | .isub | .imul | .iand | .ior | .ixor | .ishl | .iushr | .ineg | .dup | .pop | .dup2 | .ireturn | .areturn | .return_ | .iaload | .iastore | .baload | .bastore | .aaload | .aastore | .arraylength => n == 1
  | .bipush _ | .iload _ | .aload _ | .istore _ | .astore _ | .newarray _ => n == 2
  | .multianewarray _ _ => n == 4
  | _ => n == 3
def am_lens (bs : List (Nat × List (Instr × Nat))) : Bool := bs.all fun b => b.2.all fun i => am_lenok i.1 i.2
/-- the instructions of the code -/
def am_U (bs : List (Nat × List (Instr × Nat))) (i : Instr) : Prop := ∃ b ∈ bs, ∃ n, (i, n) ∈ b.2
section AMS
variable {p : Program} {l : Launch} {e : Env} {R : Room} {s : State} {m : MethodId} {args : Array Value} {below : List Frame} {meth : Method} {c : Code} {Qw : State → Prop} {cc : ByteArray} {nL : Nat}
variable {Rel : (Nat → Nat) → am_D → am_A → Heap → List Loc → Prop}
def am_KW (p : Program) (l : Launch) (e : Env) (R : Room) (s : State) (m : MethodId) (args : Array Value) (below : List Frame) (meth : Method) (c : Code) (Qw : State → Prop) (nL : Nat) (Rel : (Nat → Nat) → am_D → am_A → Heap → List Loc → Prop) : am_K := fun pc L st D a =>
  ∀ (ρ : Nat → Nat) (H : Heap) (locs : List Loc) (ls : Array Slot), Rel ρ D a H locs → am_LL ρ a.1 nL L ls → (∀ v ∈ st, am_okv a.1 v) → W p l e R s m args below meth c H locs a.2.1 a.2.2 Qw (F0 m pc ls (st.map (am_v ρ)))
/-- one instruction on memory: from k behind it to W ahead of it -/
def am_SS (p : Program) (l : Launch) (e : Env) (R : Room) (s : State) (m : MethodId) (args : Array Value) (below : List Frame) (meth : Method) (c : Code) (Qw : State → Prop) (nL : Nat) (Rel : (Nat → Nat) → am_D → am_A → Heap → List Loc → Prop) (pc n : Nat) (st : List Value) (D : am_D) (a : am_A) (k : List Value → am_D → am_A → Prop) : Prop :=
    ∀ (ρ : Nat → Nat) (H : Heap) (locs : List Loc) (ls : Array Slot), ls.size = nL → Rel ρ D a H locs → (∀ v ∈ st, am_okv a.1 v) →
    (∀ (st' : List Value) (D' : am_D) (a' : am_A) (ρ' : Nat → Nat) (H' : Heap) (locs' : List Loc), k st' D' a' → a.1 ≤ a'.1 → (∀ n, n < a.1 → ρ' n = ρ n) → Rel ρ' D' a' H' locs' → (∀ v ∈ st', am_okv a'.1 v) → W p l e R s m args below meth c H' locs' a'.2.1 a'.2.2 Qw (F0 m (pc + n) ls (st'.map (am_v ρ')))) →
    W p l e R s m args below meth c H locs a.2.1 a.2.2 Qw (F0 m pc ls (st.map (am_v ρ)))
/-- E's instructions are sound -/
def am_ES (p : Program) (l : Launch) (e : Env) (R : Room) (s : State) (m : MethodId) (args : Array Value) (below : List Frame) (meth : Method) (c : Code) (Qw : State → Prop) (nL : Nat) (cc : ByteArray) (Rel : (Nat → Nat) → am_D → am_A → Heap → List Loc → Prop) (U : Instr → Prop) (E : am_M) : Prop :=
  ∀ (i : Instr) (n pc : Nat) (st : List Value) (D : am_D) (a : am_A) (k : List Value → am_D → am_A → Prop), U i → decode cc pc = .ok (i, n) → am_lenok i n = true → E i st D a k → am_SS p l e R s m args below meth c Qw nL Rel pc n st D a k
/-- so are the returns -/
def am_RS (p : Program) (l : Launch) (e : Env) (R : Room) (s : State) (m : MethodId) (args : Array Value) (below : List Frame) (meth : Method) (c : Code) (Qw : State → Prop) (cc : ByteArray) (Rel : (Nat → Nat) → am_D → am_A → Heap → List Loc → Prop) (Q : am_R) : Prop :=
  ∀ (i : Instr) (v : Option Value) (pc : Nat) (D : am_D) (a : am_A) (ρ : Nat → Nat) (H : Heap) (locs : List Loc) (ls : Array Slot), decode cc pc = .ok (i, 1) → ((i = .ireturn ∧ ∃ x, v = some (.int x)) ∨ (i = .areturn ∧ ∃ w, v = some w ∧ ((∃ n, w = .ref n) ∨ w = .null)) ∨ (i = .return_ ∧ v = none)) → Q v D a → Rel ρ D a H locs → (∀ w ∈ v, am_okv a.1 w) → W p l e R s m args below meth c H locs a.2.1 a.2.2 Qw (F0 m pc ls (v.toList.map (am_v ρ)))
theorem am_tgt {pc : Nat} {off : Int} (h : 0 ≤ (pc : Int) + off) : (pc : Int) + off = ((((pc : Int) + off).toNat : Nat) : Int) := (Int.toNat_of_nonneg h).symm
set_option maxHeartbeats 4000000 in
theorem am_step (hx : p.tables.exec = Jvm.exec) (hb : c.code = cc) (hI : ∀ (ρ : Nat → Nat) (D : am_D) (a : am_A) (H : Heap) (locs : List Loc), Rel ρ D a H locs → ∀ x y : Nat, x < a.1 → y < a.1 → ρ x = ρ y → x = y) {U : Instr → Prop} {E : am_M} {Q : am_R} (hE : am_ES p l e R s m args below meth c Qw nL cc Rel U E) (hR : am_RS p l e R s m args below meth c Qw cc Rel Q)
    {i : Instr} {n pc : Nat} {L st : List Value} {D : am_D} {a : am_A} {k : List Value → List Value → am_D → am_A → Prop} (hu : U i) (hd : decode cc pc = .ok (i, n)) (hn : am_lenok i n = true)
    (h : am_s E (am_KW p l e R s m args below meth c Qw nL Rel) Q i pc L st D a k) (hk : ∀ L st D a, k L st D a → am_KW p l e R s m args below meth c Qw nL Rel (pc + n) L st D a) : am_KW p l e R s m args below meth c Qw nL Rel pc L st D a := by
  intro ρ H locs ls hRel hL hst
  by_cases hq : ∀ (k : List Value → List Value → am_D → am_A → Prop), am_s E (am_KW p l e R s m args below meth c Qw nL Rel) Q i pc L st D a k = E i st D a (fun st D a => k L st D a)
  · rw [hq] at h
    exact hE i n pc st D a _ hu hd hn h ρ H locs ls hL.2.2.1 hRel hst (fun st' D' a' ρ' H' locs' h1 h2 h3 h4 h5 => hk _ _ _ _ h1 ρ' H' locs' ls h4 (hL.agree h2 h3) h5)
  · cases i
    case iconst j =>
      have e1 := eq_of_beq hn
      subst e1
      exact lv_iconst hx hb hd rfl (hk _ _ _ _ h ρ H locs ls hRel hL (List.forall_mem_cons.mpr ⟨trivial, hst⟩))
    case bipush j =>
      have e1 := eq_of_beq hn
      subst e1
      exact lv_bipush hx hb hd rfl (hk _ _ _ _ h ρ H locs ls hRel hL (List.forall_mem_cons.mpr ⟨trivial, hst⟩))
    case sipush j =>
      have e1 := eq_of_beq hn
      subst e1
      exact lv_sipush hx hb hd rfl (hk _ _ _ _ h ρ H locs ls hRel hL (List.forall_mem_cons.mpr ⟨trivial, hst⟩))
    case aconst_null =>
      have e1 := eq_of_beq hn
      subst e1
      exact lv_null hx hb hd (hk _ _ _ _ h ρ H locs ls hRel hL (List.forall_mem_cons.mpr ⟨trivial, hst⟩))
    case iload j =>
      have e1 := eq_of_beq hn
      subst e1
      obtain ⟨x, e2, h⟩ := am_i_e h
      obtain ⟨g1, g2, -⟩ := hL.get e2 (fun q => by cases q)
      exact lv_iload hx hb hd g1 (hk _ _ _ _ h ρ H locs ls hRel hL (List.forall_mem_cons.mpr ⟨trivial, hst⟩))
    case iload_n j =>
      have e1 := eq_of_beq hn
      subst e1
      obtain ⟨x, e2, h⟩ := am_i_e h
      obtain ⟨g1, g2, -⟩ := hL.get e2 (fun q => by cases q)
      exact lv_iload_n hx hb hd rfl g1 (hk _ _ _ _ h ρ H locs ls hRel hL (List.forall_mem_cons.mpr ⟨trivial, hst⟩))
    case aload j =>
      have e1 := eq_of_beq hn
      subst e1
      obtain ⟨⟨z, e2⟩ | e2, h⟩ := am_r_e h
      · obtain ⟨g1, g2, -⟩ := hL.get e2 (fun q => by cases q)
        rw [e2] at h
        exact lv_aload hx hb hd g1 (hk _ _ _ _ h ρ H locs ls hRel hL (List.forall_mem_cons.mpr ⟨g2, hst⟩))
      · obtain ⟨g1, g2, -⟩ := hL.get e2 (fun q => by cases q)
        rw [e2] at h
        exact lv_aloadN hx hb hd g1 (hk _ _ _ _ h ρ H locs ls hRel hL (List.forall_mem_cons.mpr ⟨g2, hst⟩))
    case aload_n j =>
      have e1 := eq_of_beq hn
      subst e1
      obtain ⟨⟨z, e2⟩ | e2, h⟩ := am_r_e h
      · obtain ⟨g1, g2, -⟩ := hL.get e2 (fun q => by cases q)
        rw [e2] at h
        exact lv_aload_n hx hb hd rfl g1 (hk _ _ _ _ h ρ H locs ls hRel hL (List.forall_mem_cons.mpr ⟨g2, hst⟩))
      · obtain ⟨g1, g2, -⟩ := hL.get e2 (fun q => by cases q)
        rw [e2] at h
        exact lv_aload_nN hx hb hd rfl g1 (hk _ _ _ _ h ρ H locs ls hRel hL (List.forall_mem_cons.mpr ⟨g2, hst⟩))
    case istore j =>
      have e1 := eq_of_beq hn
      subst e1
      obtain ⟨x, r, rfl, hj, h⟩ := am_p1_e h
      exact lv_istore hx hb hd hL.2.2 (by rw [← hL.1]; exact hj) rfl (fun ls' hs => hk _ _ _ _ h ρ H locs ls' hRel (hL.set (w := .int x) trivial hs) (fun v hv => hst v (List.mem_cons_of_mem _ hv)))
    case istore_n j =>
      have e1 := eq_of_beq hn
      subst e1
      obtain ⟨x, r, rfl, hj, h⟩ := am_p1_e h
      exact lv_istore_n hx hb hd rfl hL.2.2 (by rw [← hL.1]; exact hj) rfl (fun ls' hs => hk _ _ _ _ h ρ H locs ls' hRel (hL.set (w := .int x) trivial hs) (fun v hv => hst v (List.mem_cons_of_mem _ hv)))
    case astore j =>
      have e1 := eq_of_beq hn
      subst e1
      obtain ⟨x, r, rfl, h⟩ := am_p0_e h
      have hv := hst x List.mem_cons_self
      have hr := fun v (hm : v ∈ r) => hst v (List.mem_cons_of_mem _ hm)
      obtain ⟨⟨z, rfl⟩ | rfl, hj, h⟩ := am_r_e h
      · exact lv_astore hx hb hd hL.2.2 (by rw [← hL.1]; exact hj) rfl (fun ls' hs => hk _ _ _ _ h ρ H locs ls' hRel (hL.set (w := .ref z) hv hs) hr)
      · exact lv_astoreN hx hb hd hL.2.2 (by rw [← hL.1]; exact hj) rfl (fun ls' hs => hk _ _ _ _ h ρ H locs ls' hRel (hL.set (w := .null) hv hs) hr)
    case astore_n j =>
      have e1 := eq_of_beq hn
      subst e1
      obtain ⟨x, r, rfl, h⟩ := am_p0_e h
      have hv := hst x List.mem_cons_self
      have hr := fun v (hm : v ∈ r) => hst v (List.mem_cons_of_mem _ hm)
      obtain ⟨⟨z, rfl⟩ | rfl, hj, h⟩ := am_r_e h
      · exact lv_astore_n hx hb hd rfl hL.2.2 (by rw [← hL.1]; exact hj) rfl (fun ls' hs => hk _ _ _ _ h ρ H locs ls' hRel (hL.set (w := .ref z) hv hs) hr)
      · exact lv_astore_nN hx hb hd rfl hL.2.2 (by rw [← hL.1]; exact hj) rfl (fun ls' hs => hk _ _ _ _ h ρ H locs ls' hRel (hL.set (w := .null) hv hs) hr)
    case iinc j z =>
      have e1 := eq_of_beq hn
      subst e1
      obtain ⟨x, e2, hj, h⟩ := am_i_e h
      obtain ⟨g1, g2, g3, g4⟩ := hL.get e2 (fun q => by cases q)
      obtain ⟨q, hq⟩ := List.getElem?_of_mem g3
      exact lv_iinc hx hb hd hL.2.2 hq rfl g4 rfl (fun ls' hs => hk _ _ _ _ h ρ H locs ls' hRel (hL.set (w := .int _) trivial hs) hst)
    case iadd =>
      have e1 := eq_of_beq hn
      subst e1
      obtain ⟨x, y, r, rfl, h⟩ := am_p2_e h
      exact lv_iadd hx hb hd (hk _ _ _ _ h ρ H locs ls hRel hL (List.forall_mem_cons.mpr ⟨trivial, fun v hv => hst v (List.mem_cons_of_mem _ (List.mem_cons_of_mem _ hv))⟩))
    case isub =>
      have e1 := eq_of_beq hn
      subst e1
      obtain ⟨x, y, r, rfl, h⟩ := am_p2_e h
      exact lv_isub hx hb hd (hk _ _ _ _ h ρ H locs ls hRel hL (List.forall_mem_cons.mpr ⟨trivial, fun v hv => hst v (List.mem_cons_of_mem _ (List.mem_cons_of_mem _ hv))⟩))
    case imul =>
      have e1 := eq_of_beq hn
      subst e1
      obtain ⟨x, y, r, rfl, h⟩ := am_p2_e h
      exact lv_imul hx hb hd (hk _ _ _ _ h ρ H locs ls hRel hL (List.forall_mem_cons.mpr ⟨trivial, fun v hv => hst v (List.mem_cons_of_mem _ (List.mem_cons_of_mem _ hv))⟩))
    case iand =>
      have e1 := eq_of_beq hn
      subst e1
      obtain ⟨x, y, r, rfl, h⟩ := am_p2_e h
      exact lv_iand hx hb hd (hk _ _ _ _ h ρ H locs ls hRel hL (List.forall_mem_cons.mpr ⟨trivial, fun v hv => hst v (List.mem_cons_of_mem _ (List.mem_cons_of_mem _ hv))⟩))
    case ior =>
      have e1 := eq_of_beq hn
      subst e1
      obtain ⟨x, y, r, rfl, h⟩ := am_p2_e h
      exact lv_ior hx hb hd (hk _ _ _ _ h ρ H locs ls hRel hL (List.forall_mem_cons.mpr ⟨trivial, fun v hv => hst v (List.mem_cons_of_mem _ (List.mem_cons_of_mem _ hv))⟩))
    case ixor =>
      have e1 := eq_of_beq hn
      subst e1
      obtain ⟨x, y, r, rfl, h⟩ := am_p2_e h
      exact lv_ixor hx hb hd (hk _ _ _ _ h ρ H locs ls hRel hL (List.forall_mem_cons.mpr ⟨trivial, fun v hv => hst v (List.mem_cons_of_mem _ (List.mem_cons_of_mem _ hv))⟩))
    case ishl =>
      have e1 := eq_of_beq hn
      subst e1
      obtain ⟨x, y, r, rfl, h⟩ := am_p2_e h
      exact lv_ishl hx hb hd (hk _ _ _ _ h ρ H locs ls hRel hL (List.forall_mem_cons.mpr ⟨trivial, fun v hv => hst v (List.mem_cons_of_mem _ (List.mem_cons_of_mem _ hv))⟩))
    case iushr =>
      have e1 := eq_of_beq hn
      subst e1
      obtain ⟨x, y, r, rfl, h⟩ := am_p2_e h
      exact lv_iushr hx hb hd rfl (hk _ _ _ _ h ρ H locs ls hRel hL (List.forall_mem_cons.mpr ⟨trivial, fun v hv => hst v (List.mem_cons_of_mem _ (List.mem_cons_of_mem _ hv))⟩))
    case ineg =>
      have e1 := eq_of_beq hn
      subst e1
      obtain ⟨x, r, rfl, h⟩ := am_p1_e h
      exact lv_ineg hx hb hd (hk _ _ _ _ h ρ H locs ls hRel hL (List.forall_mem_cons.mpr ⟨trivial, fun v hv => hst v (List.mem_cons_of_mem _ hv)⟩))
    case dup =>
      have e1 := eq_of_beq hn
      subst e1
      obtain ⟨x, r, rfl, h⟩ := am_p0_e h
      have hv := hst x List.mem_cons_self
      exact lv_dup hx hb hd (am_v_cat hv) (hk _ _ _ _ h ρ H locs ls hRel hL (List.forall_mem_cons.mpr ⟨hv, hst⟩))
    case pop =>
      have e1 := eq_of_beq hn
      subst e1
      obtain ⟨x, r, rfl, h⟩ := am_p0_e h
      have hv := hst x List.mem_cons_self
      exact lv_pop hx hb hd (am_v_cat hv) (hk _ _ _ _ h ρ H locs ls hRel hL (fun v hv => hst v (List.mem_cons_of_mem _ hv)))
    case dup2 =>
      have e1 := eq_of_beq hn
      subst e1
      obtain ⟨x, r, rfl, h⟩ := am_p0_e h
      obtain ⟨y, r, rfl, h⟩ := am_p0_e h
      have hv := hst x List.mem_cons_self
      have hw := hst y (List.mem_cons_of_mem _ List.mem_cons_self)
      exact lv_dup2_11 hx hb hd (am_v_cat hv) (am_v_cat hw) (hk _ _ _ _ h ρ H locs ls hRel hL (List.forall_mem_cons.mpr ⟨hv, List.forall_mem_cons.mpr ⟨hw, hst⟩⟩))
    case goto o =>
      have e1 := eq_of_beq hn
      subst e1
      exact lv_goto hx hb hd (am_tgt h.1) (h.2 ρ H locs ls hRel hL hst)
    case ifCond cd o =>
      have e1 := eq_of_beq hn
      subst e1
      obtain ⟨x, r, rfl, h⟩ := am_p1_e h
      have hr := fun v (hm : v ∈ r) => hst v (List.mem_cons_of_mem _ hm)
      cases cd
      · exact lv_if_eq hx hb hd (am_tgt h.1) (fun q => h.2.1 q ρ H locs ls hRel hL hr) (fun q => hk _ _ _ _ (h.2.2 q) ρ H locs ls hRel hL hr)
      · exact lv_if_ne hx hb hd (am_tgt h.1) (fun q => h.2.1 q ρ H locs ls hRel hL hr) (fun q => hk _ _ _ _ (h.2.2 (fun z => z q)) ρ H locs ls hRel hL hr)
      · exact lv_if_lt hx hb hd (am_tgt h.1) (fun q => h.2.1 q ρ H locs ls hRel hL hr) (fun q => hk _ _ _ _ (h.2.2 q) ρ H locs ls hRel hL hr)
      · exact lv_if_ge hx hb hd (am_tgt h.1) (fun q => h.2.1 q ρ H locs ls hRel hL hr) (fun q => hk _ _ _ _ (h.2.2 q) ρ H locs ls hRel hL hr)
      · exact lv_if_gt hx hb hd (am_tgt h.1) (fun q => h.2.1 q ρ H locs ls hRel hL hr) (fun q => hk _ _ _ _ (h.2.2 q) ρ H locs ls hRel hL hr)
      · exact lv_if_le hx hb hd (am_tgt h.1) (fun q => h.2.1 q ρ H locs ls hRel hL hr) (fun q => hk _ _ _ _ (h.2.2 q) ρ H locs ls hRel hL hr)
    case if_icmp cd o =>
      have e1 := eq_of_beq hn
      subst e1
      obtain ⟨x, y, r, rfl, h⟩ := am_p2_e h
      have hr := fun v (hm : v ∈ r) => hst v (List.mem_cons_of_mem _ (List.mem_cons_of_mem _ hm))
      cases cd
      · exact lv_icmp_eq hx hb hd (am_tgt h.1) (fun q => h.2.1 q ρ H locs ls hRel hL hr) (fun q => hk _ _ _ _ (h.2.2 q) ρ H locs ls hRel hL hr)
      · exact lv_icmp_ne hx hb hd (am_tgt h.1) (fun q => h.2.1 q ρ H locs ls hRel hL hr) (fun q => hk _ _ _ _ (h.2.2 (fun z => z q)) ρ H locs ls hRel hL hr)
      · exact lv_icmp_lt hx hb hd (am_tgt h.1) (fun q => h.2.1 q ρ H locs ls hRel hL hr) (fun q => hk _ _ _ _ (h.2.2 q) ρ H locs ls hRel hL hr)
      · exact lv_icmp_ge hx hb hd (am_tgt h.1) (fun q => h.2.1 q ρ H locs ls hRel hL hr) (fun q => hk _ _ _ _ (h.2.2 q) ρ H locs ls hRel hL hr)
      · exact lv_icmp_gt hx hb hd (am_tgt h.1) (fun q => h.2.1 q ρ H locs ls hRel hL hr) (fun q => hk _ _ _ _ (h.2.2 q) ρ H locs ls hRel hL hr)
      · exact lv_icmp_le hx hb hd (am_tgt h.1) (fun q => h.2.1 q ρ H locs ls hRel hL hr) (fun q => hk _ _ _ _ (h.2.2 q) ρ H locs ls hRel hL hr)
    case ifnull o =>
      have e1 := eq_of_beq hn
      subst e1
      obtain ⟨x, r, rfl, h⟩ := am_p0_e h
      have hr := fun v (hm : v ∈ r) => hst v (List.mem_cons_of_mem _ hm)
      obtain ⟨⟨z, rfl⟩ | rfl, h⟩ := am_r_e h
      · exact lv_ifnull hx hb hd (hk _ _ _ _ (h.2.2 (fun q => by cases q)) ρ H locs ls hRel hL hr)
      · exact lv_ifnullN hx hb hd (am_tgt h.1) (h.2.1 rfl ρ H locs ls hRel hL hr)
    case ifnonnull o =>
      have e1 := eq_of_beq hn
      subst e1
      obtain ⟨x, r, rfl, h⟩ := am_p0_e h
      have hr := fun v (hm : v ∈ r) => hst v (List.mem_cons_of_mem _ hm)
      obtain ⟨⟨z, rfl⟩ | rfl, h⟩ := am_r_e h
      · exact lv_ifnonnull hx hb hd (am_tgt h.1) (h.2.1 (fun q => by cases q) ρ H locs ls hRel hL hr)
      · exact lv_ifnonnullN hx hb hd (hk _ _ _ _ (h.2.2 (fun q => q rfl)) ρ H locs ls hRel hL hr)
    case tableswitch d lo hi os =>
      obtain ⟨x, r, rfl, h⟩ := am_p1_e h
      have hr := fun v (hm : v ∈ r) => hst v (List.mem_cons_of_mem _ hm)
      by_cases hc : x.toInt < lo ∨ hi < x.toInt
      · exact lv_tableOut hx hb hd hc (am_tgt h.1) (h.2.1 hc ρ H locs ls hRel hL hr)
      · obtain ⟨h1, h2, h3⟩ := h.2.2 hc
        refine lv_tableIn hx hb hd (fun q => hc (Or.inl q)) (fun q => hc (Or.inr q)) (off := os.getD (x.toInt - lo).toNat d) ?_ (am_tgt h1) (h3 ρ H locs ls hRel hL hr)
        simp [Array.getD, h2]
    case ireturn =>
      have e1 := eq_of_beq hn
      subst e1
      obtain ⟨x, r, rfl, e2, h9⟩ := am_p1_e h
      subst e2
      exact hR .ireturn (some (.int x)) pc D a ρ H locs ls hd (Or.inl ⟨rfl, x, rfl⟩) h9 hRel (fun w hw => by cases hw; trivial)
    case areturn =>
      have e1 := eq_of_beq hn
      subst e1
      obtain ⟨x, r, rfl, h⟩ := am_p0_e h
      obtain ⟨hz, e2, h9⟩ := am_r_e h
      subst e2
      exact hR .areturn (some x) pc D a ρ H locs ls hd (Or.inr (Or.inl ⟨rfl, x, rfl, hz⟩)) h9 hRel (fun w hw => by cases hw; exact hst _ List.mem_cons_self)
    case return_ =>
      have e1 := eq_of_beq hn
      subst e1
      obtain ⟨e2, h⟩ := h
      subst e2
      exact hR .return_ none pc D a ρ H locs ls hd (Or.inr (Or.inr ⟨rfl, rfl⟩)) h hRel (fun w hw => by cases hw)
    case if_acmp cd o =>
      have e1 := eq_of_beq hn
      subst e1
      cases cd
      · obtain ⟨x, r, rfl, h⟩ := am_p0_e h
        obtain ⟨y, r, rfl, h⟩ := am_p0_e h
        obtain ⟨hz1, h⟩ := am_r_e h
        obtain ⟨hz2, h⟩ := am_r_e h
        have ho1 := hst x List.mem_cons_self
        have ho2 := hst y (List.mem_cons_of_mem _ List.mem_cons_self)
        have hr := fun v (hm : v ∈ r) => hst v (List.mem_cons_of_mem _ (List.mem_cons_of_mem _ hm))
        rw [List.map_cons, List.map_cons, am_v_rf hz1, am_v_rf hz2]
        exact lv_acmp_eq hx hb hd (am_tgt h.1) (fun q => h.2.1 ((am_o_inj (hI ρ D a H locs hRel) hz2 hz1 ho2 ho1).mp q) ρ H locs ls hRel hL hr) (fun q => hk _ _ _ _ (h.2.2 (fun z => q ((am_o_inj (hI ρ D a H locs hRel) hz2 hz1 ho2 ho1).mpr z))) ρ H locs ls hRel hL hr)
      · obtain ⟨x, r, rfl, h⟩ := am_p0_e h
        obtain ⟨y, r, rfl, h⟩ := am_p0_e h
        obtain ⟨hz1, h⟩ := am_r_e h
        obtain ⟨hz2, h⟩ := am_r_e h
        have ho1 := hst x List.mem_cons_self
        have ho2 := hst y (List.mem_cons_of_mem _ List.mem_cons_self)
        have hr := fun v (hm : v ∈ r) => hst v (List.mem_cons_of_mem _ (List.mem_cons_of_mem _ hm))
        rw [List.map_cons, List.map_cons, am_v_rf hz1, am_v_rf hz2]
        exact lv_acmp_ne hx hb hd (am_tgt h.1) (fun q => h.2.1 (fun z => q ((am_o_inj (hI ρ D a H locs hRel) hz2 hz1 ho2 ho1).mpr z)) ρ H locs ls hRel hL hr) (fun q => hk _ _ _ _ (h.2.2 (fun z => z ((am_o_inj (hI ρ D a H locs hRel) hz2 hz1 ho2 ho1).mp q))) ρ H locs ls hRel hL hr)
    all_goals exact absurd (fun k => rfl) hq
theorem am_walk (hx : p.tables.exec = Jvm.exec) (hb : c.code = cc) (hI : ∀ (ρ : Nat → Nat) (D : am_D) (a : am_A) (H : Heap) (locs : List Loc), Rel ρ D a H locs → ∀ x y : Nat, x < a.1 → y < a.1 → ρ x = ρ y → x = y) {U : Instr → Prop} {E : am_M} {Q : am_R} (hE : am_ES p l e R s m args below meth c Qw nL cc Rel U E) (hR : am_RS p l e R s m args below meth c Qw cc Rel Q) :
    ∀ (is : List (Instr × Nat)) (pc : Nat), (∀ i ∈ is, U i.1) → am_ok cc is pc = true → (is.all fun i => am_lenok i.1 i.2) = true → ∀ (L st : List Value) (D : am_D) (a : am_A), am_w E (am_KW p l e R s m args below meth c Qw nL Rel) Q is pc L st D a → am_KW p l e R s m args below meth c Qw nL Rel pc L st D a
  | [], pc, _, _, _, L, st, D, a, h => h
  | i :: r, pc, hu, h1, h2, L, st, D, a, h => by
    have h1 := (Bool.and_eq_true _ _).mp h1
    have h2 := (Bool.and_eq_true _ _).mp h2
    exact am_step hx hb hI hE hR (hu i List.mem_cons_self) (of_decide_eq_true h1.1) h2.1 h (fun L st D a h => am_walk hx hb hI hE hR r (pc + i.2) (fun j hj => hu j (List.mem_cons_of_mem _ hj)) h1.2 h2.2 L st D a h)
theorem am_closed (hx : p.tables.exec = Jvm.exec) (hb : c.code = cc) (hI : ∀ (ρ : Nat → Nat) (D : am_D) (a : am_A) (H : Heap) (locs : List Loc), Rel ρ D a H locs → ∀ x y : Nat, x < a.1 → y < a.1 → ρ x = ρ y → x = y) {U : Instr → Prop} {E : am_M} {Q : am_R} (hE : am_ES p l e R s m args below meth c Qw nL cc Rel U E) (hR : am_RS p l e R s m args below meth c Qw cc Rel Q) {bs : List (Nat × List (Instr × Nat))} (hu : ∀ i, am_U bs i → U i) (h1 : am_oks cc bs = true) (h2 : am_lens bs = true) : am_C E bs (am_KW p l e R s m args below meth c Qw nL Rel) Q :=
  fun b hb' L st D a h => am_walk hx hb hI hE hR b.2 b.1 (fun i hi => hu i.1 ⟨b, hb', i.2, hi⟩) (List.all_eq_true.mp h1 b hb') (List.all_eq_true.mp h2 b hb') L st D a h
end AMS
