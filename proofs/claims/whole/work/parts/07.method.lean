/-! ===== a method's contract out of its blocks ===== -/
/-- what the code's field and class numbers must be among the words Ts -/
def am_fch (cl : List vw_C) (Ts : List Cond) (own : String) (fl : Nat → Nat × Nat) (nw : Nat → Nat) (ini : Bool) (i : Instr) : Bool := match i with
  | .getfield x => match cl[(fl x).1]? with
    | some r => decide ((fl x).2 < r.2.2) && decide (Cond.fieldLink own x (r.2.1 (fl x).2).1 (r.2.1 (fl x).2).2.1 (r.2.1 (fl x).2).2.2.1 ∈ Ts)
    | none => false
  | .putfield x => match cl[(fl x).1]? with
    | some r => decide ((fl x).2 < r.2.2) && decide (Cond.fieldLink own x (r.2.1 (fl x).2).1 (r.2.1 (fl x).2).2.1 (r.2.1 (fl x).2).2.2.1 ∈ Ts) && (!(r.2.1 (fl x).2).2.2.2 || (ini && decide ((r.2.1 (fl x).2).1 = own)))
    | none => false
  | .new x => match cl[nw x]? with
    | some r => decide (Cond.classLink own x r.1 ∈ Ts) && decide (Cond.instantiable r.1 r.2.2 ∈ Ts) && decide (Cond.initialized r.1 ∈ Ts)
    | none => false
  | .newarray .int => decide (Cond.arrayClass .int ∈ Ts)
  | .newarray .boolean => decide (Cond.arrayClass .boolean ∈ Ts)
  | .anewarray x => decide (Cond.classLink own x "SeatDesk$Ride" ∈ Ts)
  | _ => true
def am_fchs (cl : List vw_C) (Ts : List Cond) (own : String) (fl : Nat → Nat × Nat) (nw : Nat → Nat) (ini : Bool) (bs : List (Nat × List (Instr × Nat))) : Bool := bs.all fun b => b.2.all fun i => am_fch cl Ts own fl nw ini i.1
/-- the classes whose fields the code touches: their words are there -/
def am_cch (cs : List Nat) (fl : Nat → Nat × Nat) (nw : Nat → Nat) (i : Instr) : Bool := match i with
  | .getfield x => cs.contains (fl x).1
  | .putfield x => cs.contains (fl x).1
  | .new x => cs.contains (nw x)
  | _ => true
def am_cchs (cs : List Nat) (fl : Nat → Nat × Nat) (nw : Nat → Nat) (bs : List (Nat × List (Instr × Nat))) : Bool := bs.all fun b => b.2.all fun i => am_cch cs fl nw i.1
theorem am_U_all {f : Instr → Bool} {bs : List (Nat × List (Instr × Nat))} (h : (bs.all fun b => b.2.all fun i => f i.1) = true) {i : Instr} (hi : am_U bs i) : f i = true := by
  obtain ⟨b, hb, n, hn⟩ := hi
  exact List.all_eq_true.mp (List.all_eq_true.mp h b hb) (i, n) hn
def am_ro (ret : Option FieldType) (v : Option Value) : Prop := match ret with
  | none => v = none
  | some .int => ∃ x, v = some (.int x)
  | some .boolean => v = some (.int 0) ∨ v = some (.int 1)
  | some (.object _) => (∃ n, v = some (.ref n)) ∨ v = some .null
  | _ => False
section AMO
variable {p : Program} {l : Launch} {e : Env} {R : Room} {s : State} {m : MethodId} {args : Array Value} {below : List Frame} {meth : Method} {c : Code} {Qw : State → Prop} {cc : ByteArray} {nL : Nat}
variable {G : va_G} {cl : List vw_C} {dT : Nat → ClassId} {A : Nat → Prop} {H0 : Heap} {sh : Nat → am_Sh} {own : String} {Ts : List Cond}
set_option maxHeartbeats 1000000 in
theorem am_Em_s (hx : p.tables.exec = Jvm.exec) (hb : c.code = cc) (hown : s.vm.findClass own = some m.cls) (hts : ∀ w ∈ Ts, w.before args s = true) (hK : va_K G cl (am_ty dT) s) (hGl : am_Gl s) (hsc : am_SC cl sh) (hc1 : ∃ (T : u_T) (N : Nat), cl[1]? = some ("SeatDesk$Ride", T, N)) (hA : ∀ q, H0.size ≤ q → A q)
    {fl : Nat → Nat × Nat} {nw : Nat → Nat} {ini : Bool} {bs : List (Nat × List (Instr × Nat))} {cs : List Nat} (hcs : ∀ ci, ci ∈ cs → ∀ (C : String) (T : u_T) (N : Nat), cl[ci]? = some (C, T, N) → ∀ w ∈ u_ws C T N, w ∈ Ts) (hch : am_fchs cl Ts own fl nw ini bs = true) (hcc : am_cchs cs fl nw bs = true) (hini : ini = true → meth.name = "<init>")
    {cal : am_M} (hcal : am_ES p l e R s m args below meth c Qw nL cc (am_Rel G cl dT A H0 sh) (am_U bs) cal) : am_ES p l e R s m args below meth c Qw nL cc (am_Rel G cl dT A H0 sh) (am_U bs) (am_Em sh R.cells R.slots fl nw cal) := by
  intro i n pc st D a k hu hd hn h
  have h1 := am_U_all hch hu
  have h2 := am_U_all hcc hu
  by_cases hq : am_Em sh R.cells R.slots fl nw cal i st D a k = cal i st D a k
  · rw [hq] at h
    exact hcal i n pc st D a k hu hd hn h
  · have gf : ∀ x, (match cl[(fl x).1]? with
        | some r => decide ((fl x).2 < r.2.2) && decide (Cond.fieldLink own x (r.2.1 (fl x).2).1 (r.2.1 (fl x).2).2.1 (r.2.1 (fl x).2).2.2.1 ∈ Ts)
        | none => false) = true → cs.contains (fl x).1 = true → am_FF cl Ts own x (fl x) := by
      intro x g1 g2
      cases hr : cl[(fl x).1]? with
      | none => rw [hr] at g1; cases g1
      | some r =>
        rw [hr] at g1
        have g1 := (Bool.and_eq_true _ _).mp g1
        obtain ⟨C, T, N⟩ := r
        exact ⟨C, T, N, hr, hcs _ (List.contains_iff_mem.mp g2) C T N hr, of_decide_eq_true g1.1, of_decide_eq_true g1.2⟩
    cases i
    case getfield x =>
      have e1 := eq_of_beq hn
      subst e1
      exact am_get_s hx hb hts hown hK (gf x h1 h2) hd h
    case putfield x =>
      have e1 := eq_of_beq hn
      subst e1
      have h1' : (match cl[(fl x).1]? with
        | some r => decide ((fl x).2 < r.2.2) && decide (Cond.fieldLink own x (r.2.1 (fl x).2).1 (r.2.1 (fl x).2).2.1 (r.2.1 (fl x).2).2.2.1 ∈ Ts) && (!(r.2.1 (fl x).2).2.2.2 || (ini && decide ((r.2.1 (fl x).2).1 = own)))
        | none => false) = true := h1
      refine am_put_s hx hb hts hown hK hsc (gf x ?_ h2) (fun C T N hr => ?_) hd h
      · cases hr : cl[(fl x).1]? with
        | none => rw [hr] at h1'; cases h1'
        | some r =>
          rw [hr] at h1'
          exact ((Bool.and_eq_true _ _).mp h1').1
      · rw [hr] at h1'
        have h3 := ((Bool.and_eq_true _ _).mp h1').2
        dsimp only at h3
        cases hfin : (T (fl x).2).2.2.2 with
        | false => exact Or.inl rfl
        | true =>
          rw [hfin] at h3
          have h3 := (Bool.and_eq_true _ _).mp (show (ini && decide ((T (fl x).2).1 = own)) = true from h3)
          exact Or.inr ⟨rfl, hini h3.1, of_decide_eq_true h3.2⟩
    case iaload =>
      have e1 := eq_of_beq hn
      subst e1
      exact am_iald_s hx hb hK hd h
    case baload =>
      have e1 := eq_of_beq hn
      subst e1
      exact am_zald_s hx hb hK hd h
    case aaload =>
      have e1 := eq_of_beq hn
      subst e1
      obtain ⟨j, r, e2, g1⟩ := am_p1_e h
      obtain ⟨o, r2, e3, g2⟩ := am_p0_e g1
      obtain ⟨z, e4, g3⟩ := am_n_e g2
      unfold am_sel at g3
      split at g3
      · split at g3
        · exact am_qald_s hx hb hK hd g3
        · exact am_rald_s hx hb hK hd g3
      · exact g3.elim
    case iastore =>
      have e1 := eq_of_beq hn
      subst e1
      exact am_iast_s hx hb hK hd h
    case bastore =>
      have e1 := eq_of_beq hn
      subst e1
      exact am_zast_s hx hb hK hd h
    case aastore =>
      have e1 := eq_of_beq hn
      subst e1
      exact am_qast_s hx hb hK hc1 hd h
    case arraylength =>
      have e1 := eq_of_beq hn
      subst e1
      exact am_alen_s hx hb hK hd h
    case new x =>
      have e1 := eq_of_beq hn
      subst e1
      have h1' : (match cl[nw x]? with
        | some r => decide (Cond.classLink own x r.1 ∈ Ts) && decide (Cond.instantiable r.1 r.2.2 ∈ Ts) && decide (Cond.initialized r.1 ∈ Ts)
        | none => false) = true := h1
      refine am_new_s hx hb hts hown hK hsc hA rfl rfl ?_ hd h
      cases hr : cl[nw x]? with
      | none => rw [hr] at h1'; cases h1'
      | some r =>
        rw [hr] at h1'
        have g1 := (Bool.and_eq_true _ _).mp h1'
        have g2 := (Bool.and_eq_true _ _).mp g1.1
        obtain ⟨C, T, N⟩ := r
        exact ⟨C, T, N, hr, hcs _ (List.contains_iff_mem.mp h2) C T N hr, of_decide_eq_true g2.1, of_decide_eq_true g2.2, of_decide_eq_true g1.2⟩
    case newarray t =>
      have e1 := eq_of_beq hn
      subst e1
      cases t
      case int => exact am_newa_s hx hb hK hA (Or.inl ⟨rfl, rfl⟩) (hts _ (of_decide_eq_true h1)) rfl rfl hd h
      case boolean => exact am_newa_s hx hb hK hA (Or.inr ⟨rfl, rfl⟩) (hts _ (of_decide_eq_true h1)) rfl rfl hd h
      all_goals exact absurd rfl hq
    case anewarray x =>
      have e1 := eq_of_beq hn
      subst e1
      exact am_newq_s hx hb hts hown hK hA (of_decide_eq_true h1) hGl.1 rfl rfl hd h
    all_goals exact absurd rfl hq
theorem am_entry {N nL : Nat} {ρ : Nat → Nat} : ∀ {vs : List Value} (i : Nat), (∀ v ∈ vs, am_okv N v) → ∀ (j : Nat) (v : Value), vs[j]? = some v → (i + j, am_v ρ v) ∈ lv_args i (vs.map (am_v ρ))
  | [], _, _, j, v, h => by simp at h
  | w :: r, i, hv, 0, v, h => by
    rw [List.getElem?_cons_zero] at h
    cases h
    exact List.mem_cons_self
  | w :: r, i, hv, j + 1, v, h => by
    rw [List.getElem?_cons_succ] at h
    have := am_entry (nL := nL) (ρ := ρ) (i + 1) (fun v hv' => hv v (List.mem_cons_of_mem _ hv')) j v h
    show (i + (j + 1), am_v ρ v) ∈ (i, am_v ρ w) :: lv_args (if (am_v ρ w).category = 2 then i + 2 else i + 1) (r.map (am_v ρ))
    rw [am_v_cat (hv w List.mem_cons_self), if_neg (by decide)]
    rw [show i + (j + 1) = i + 1 + j by omega]
    exact List.mem_cons_of_mem _ this
theorem am_sl {N : Nat} {ρ : Nat → Nat} : ∀ {vs : List Value}, (∀ v ∈ vs, am_okv N v) → (lg_sl (vs.map (am_v ρ))).length = vs.length
  | [], _ => rfl
  | w :: r, hv => by
    have := am_sl (ρ := ρ) (fun v hv' => hv v (List.mem_cons_of_mem w hv'))
    unfold lg_sl at this ⊢
    rw [List.map_cons, List.flatMap_cons, am_v_cat (hv w List.mem_cons_self), if_neg (by decide)]
    rw [List.length_append, this]
    show 1 + r.length = r.length + 1
    omega
set_option maxHeartbeats 1000000 in
theorem am_ofW {y : MethodName} {ws ws' : List Cond} {rm : Room} {mc ms maxL : Nat} {ret : Option FieldType} {P : am_P} (hy : plainName y.cls = true) (hw : ws = Cond.code y cc maxL ret :: ws') (hret : ret = none ∨ ret = some .int ∨ ret = some .boolean ∨ ∃ C, ret = some (.object C))
    (bs : List (Nat × List (Instr × Nat))) (ok1 : am_oks cc bs = true) (ok2 : am_lens bs = true) (E : am_M)
    (hE : ∀ (p : Program) (e : Env) (s : State) (m : MethodId) (args : Array Value) (below : List Frame) (meth : Method) (c : Code) (Qw : State → Prop) (G : va_G) (dT : Nat → ClassId) (A : Nat → Prop) (H0 : Heap), p.tables.exec = Jvm.exec → c.code = cc → c.maxLocals = maxL → (∀ w ∈ ws, w.before args s = true) → s.vm.findClass y.cls = some m.cls → meth.name = y.name → va_K G cl (am_ty dT) s → am_Gl s → (∀ q, H0.size ≤ q → A q) → am_ES p l e rm s m args below meth c Qw maxL cc (am_Rel G cl dT A H0 sh) (am_U bs) E)
    (hP : ∀ (vs : List Value) (D : am_D) (N : Nat) (k : Option Value → am_D → Nat → Prop), P vs D N k → vs.length ≤ maxL ∧ ∀ K : am_K, am_C E bs K (fun v D' a' => am_ro ret v ∧ a'.2.1 ≤ mc ∧ a'.2.2 ≤ ms ∧ k v D' a'.1 ∧ N ≤ a'.1) → K 0 (vs ++ List.replicate (maxL - vs.length) am_u) [] D (N, 0, 0)) : am_Ctr l cl sh y ws rm mc ms P := by
  intro G dT ρ N D sz vs k hRk hvs hPv
  obtain ⟨hlen, hK0⟩ := hP vs D N k hPv
  refine Met.ofW (cc := cc) (maxL := maxL) (ret := ret) hy hw ?_
  intro p e s m args below meth c s₁ B hml hv
  obtain ⟨rfl, hsz, hPw, hKw, hD0, hGl⟩ := hv
  subst hsz
  have hx := B.exec
  have hb := B.bytes
  have hr := B.returns
  have hts := atoms_spec (ws := ws) B.pre
  have hown : s.vm.findClass y.cls = some m.cls := findClass_of_methodNamed B.named
  have hlocks := B.notSynchronized
  have hnm : meth.name = y.name := (name_of_methodNamed B.named B.method).1
  have hD := hD0.self (sz := s.heap.size)
  have hS : va_S (va_A (am_W sh dT ρ N D) s.heap.size) s.heap s.heap [] := va_S.rf
  have hA : ∀ q, s.heap.size ≤ q → va_A (am_W sh dT ρ N D) s.heap.size q := fun q h => Or.inr h
  have hrs : am_RS p l e rm s m (vs.map (am_v ρ)).toArray below meth c (MQ below (am_Qc G cl dT sh ρ N D s.heap.size k) (vs.map (am_v ρ)).toArray s mc ms (va_A (am_W sh dT ρ N D) s.heap.size)) cc (fun ρ' D' a' H' locs' => am_Rel G cl dT (va_A (am_W sh dT ρ N D) s.heap.size) s.heap sh ρ' D' a' H' locs' ∧ N ≤ a'.1 ∧ ∀ n, n < N → ρ' n = ρ n) (fun v D' a' => am_ro ret v ∧ a'.2.1 ≤ mc ∧ a'.2.2 ≤ ms ∧ k v D' a'.1 ∧ N ≤ a'.1) := by
    intro i v pc D' a' ρ' H' locs' ls hd hi hq hRel hok
    obtain ⟨hro, hmc, hms, hk, -⟩ := hq
    obtain ⟨⟨gP, gD, gS, gR⟩, gN, gag⟩ := hRel
    have fin : ∀ t : State, t.heap = H' → s.WarmedH t.vm → am_Qc G cl dT sh ρ N D s.heap.size k (vs.map (am_v ρ)).toArray s (.returned (v.map (am_v ρ'))) t := fun t ht _ => ⟨⟨v, ρ', a'.1, D', rfl, hk, gN, gag, gR, hok, by rw [ht]; exact gP, gD⟩, gS.F ht⟩
    refine W.widen hmc hms ?_
    rcases hi with ⟨rfl, x, rfl⟩ | ⟨rfl, w, rfl, hz⟩ | ⟨rfl, rfl⟩
    · rcases hret with rfl | rfl | rfl | ⟨C, rfl⟩
      · cases hro
      · exact W.iret hx hb hr fin gS.2.2 hd hlocks
      · refine W.zret hx hb hr ?_ fin gS.2.2 hd hlocks
        rcases hro with q | q <;> cases q <;> rfl
      · rcases hro with ⟨z, q⟩ | q <;> cases q
    · rcases hret with rfl | rfl | rfl | ⟨C, rfl⟩
      · cases hro
      · obtain ⟨z, q⟩ := hro
        cases q
        rcases hz with ⟨_, q⟩ | q <;> cases q
      · rcases hro with q | q <;> cases q <;> rcases hz with ⟨_, q⟩ | q <;> cases q
      · refine W.aret hx hb hr (Or.inl ⟨C, rfl⟩) ?_ fin gS.2.2 hd hlocks
        rcases hz with ⟨z, rfl⟩ | rfl
        · exact Or.inr ⟨_, rfl⟩
        · exact Or.inl rfl
    · rcases hret with rfl | rfl | rfl | ⟨C, rfl⟩
      · exact W.vret hx hb hr fin gS.2.2 hd hlocks
      · obtain ⟨z, q⟩ := hro
        cases q
      · rcases hro with q | q <;> cases q
      · rcases hro with ⟨z, q⟩ | q <;> cases q
  have hes0 := hE p e s m (vs.map (am_v ρ)).toArray below meth c (MQ below (am_Qc G cl dT sh ρ N D s.heap.size k) (vs.map (am_v ρ)).toArray s mc ms (va_A (am_W sh dT ρ N D) s.heap.size)) G dT (va_A (am_W sh dT ρ N D) s.heap.size) s.heap hx hb hml hts hown hnm hKw hGl hA
  have hes : am_ES p l e rm s m (vs.map (am_v ρ)).toArray below meth c (MQ below (am_Qc G cl dT sh ρ N D s.heap.size k) (vs.map (am_v ρ)).toArray s mc ms (va_A (am_W sh dT ρ N D) s.heap.size)) maxL cc (fun ρ' D' a' H' locs' => am_Rel G cl dT (va_A (am_W sh dT ρ N D) s.heap.size) s.heap sh ρ' D' a' H' locs' ∧ N ≤ a'.1 ∧ ∀ n, n < N → ρ' n = ρ n) (am_U bs) E := by
    intro i n pc st D' a' k' hu hd hn h ρ' H' locs' ls hls hRel hst kk
    exact hes0 i n pc st D' a' k' hu hd hn h ρ' H' locs' ls hls hRel.1 hst (fun st2 D2 a2 ρ2 H2 locs2 q1 q2 q3 q4 q5 => kk st2 D2 a2 ρ2 H2 locs2 q1 q2 q3 ⟨q4, Nat.le_trans hRel.2.1 q2, fun n hn => (q3 n (Nat.lt_of_lt_of_le hn hRel.2.1)).trans (hRel.2.2 n hn)⟩ q5)
  have hC := am_closed hx hb (fun ρ' D' a' H' locs' h => am_Rel.inj ρ' D' a' H' locs' h.1) hes hrs (bs := bs) (fun _ h => h) ok1 ok2
  have hgo := hK0 _ hC
  have hl := lv_entry (vs.map (am_v ρ)) (n := maxL) (by rw [am_sl hvs]; exact hlen)
  rw [lg_entry_eq]
  refine hgo ρ s.heap [] _ ⟨⟨hPw, hD, hS, hRk⟩, Nat.le_refl _, fun _ _ => rfl⟩ ⟨by simp; omega, ?_, hl.1, hl.2.1, ?_⟩ (fun v hv => by cases hv)
  · intro j v hj hu
    by_cases hjl : j < vs.length
    · rw [List.getElem?_append_left hjl] at hj
      exact hvs v (List.mem_of_getElem? hj)
    · rw [List.getElem?_append_right (by omega)] at hj
      exact absurd (List.eq_of_mem_replicate (List.mem_of_getElem? hj)) hu
  · rintro ⟨j, w⟩ hq
    obtain ⟨v, hj, hu, rfl⟩ := am_al_mem.mp hq
    by_cases hjl : j < vs.length
    · rw [List.getElem?_append_left hjl] at hj
      have := am_entry (nL := maxL) (ρ := ρ) 0 hvs j v hj
      rw [Nat.zero_add] at this
      exact hl.2.2 _ this
    · rw [List.getElem?_append_right (by omega)] at hj
      exact absurd (List.eq_of_mem_replicate (List.mem_of_getElem? hj)) hu
end AMO
