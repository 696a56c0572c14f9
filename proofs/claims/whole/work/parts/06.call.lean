/-! ===== contracts in the abstract machine's words; calls; a method's contract out of its blocks ===== -/
abbrev am_P : Type := List Value → am_D → Nat → (Option Value → am_D → Nat → Prop) → Prop
/-- what the tables say beside the words: new Ride[n], new int[n][m], and the two calls of a nest mate's private method -/
def am_Gl (U : State) : Prop := va_AO "SeatDesk$Ride" U ∧ (Cond.arrayOver (.array .int)).before #[] U = true ∧ va_Nw (.methodLinkNest "SeatDesk$Ride" 44 ⟨"SeatDesk", "way", "(II)I"⟩ "SeatDesk") U ∧ va_Nw (.methodLinkNest "SeatDesk" 24 ⟨"SeatDesk$Blocks", "<init>", "()V"⟩ "SeatDesk") U
theorem am_AOA.moved {u U : State} (hvm : u.vm.Alike U.vm) (h : (Cond.arrayOver (.array .int)).before #[] u = true) : (Cond.arrayOver (.array .int)).before #[] U = true := by
  unfold Cond.before Cond.holds at h ⊢
  simp only [Cond.value] at h ⊢
  cases hc : u.vm.findClass (FieldType.array .int).toString with
  | none => rw [hc] at h; simp at h
  | some comp =>
    rw [hc, Option.bind_some] at h
    have f1 : U.vm.findClass (FieldType.array .int).toString = some comp := by rw [hvm.findClass]; exact hc
    rw [f1, Option.bind_some]
    have hi : (U.vm.classes.findIdx? fun (x : Class) => match x.kind with | .array component _ => component == comp | _ => false) = (u.vm.classes.findIdx? fun (x : Class) => match x.kind with | .array component _ => component == comp | _ => false) := by
      have e1 := va_idx_bare U.vm comp
      have e2 := va_idx_bare u.vm comp
      have e3 : u.vm.bare = U.vm.bare := by first | exact hvm.bare_eq | exact hvm.bare_eq.symm
      rw [e3] at e2
      exact e1.symm.trans e2
    have key : ∀ o : Option Nat, (o.bind (fun c => (u.vm.classes[c]?).map fun (k : Class) => match k.kind with | .array _ ty => decide (ty = FieldType.array .int) && decide (u.vm.findClass ("[" ++ (FieldType.array .int).toString) = some c) | _ => false) == some true) = true → (o.bind (fun c => (U.vm.classes[c]?).map fun (k : Class) => match k.kind with | .array _ ty => decide (ty = FieldType.array .int) && decide (U.vm.findClass ("[" ++ (FieldType.array .int).toString) = some c) | _ => false) == some true) = true := by
      intro o ho
      cases o with
      | none => simp at ho
      | some c =>
        rw [Option.bind_some] at ho ⊢
        cases hk : u.vm.classes[c]? with
        | none => rw [hk] at ho; simp at ho
        | some k =>
          obtain ⟨k', hk', he⟩ := hvm.2.2 _ _ hk
          rw [hk] at ho
          rw [hk', hvm.findClass]
          have hkind : k'.kind = k.kind := by rw [he]
          simp only [Option.map_some, hkind] at ho ⊢
          exact ho
    have h2 := key _ h
    exact (congrArg (fun o : Option Nat => (o.bind (fun c => (U.vm.classes[c]?).map fun (k : Class) => match k.kind with | .array _ ty => decide (ty = FieldType.array .int) && decide (U.vm.findClass ("[" ++ (FieldType.array .int).toString) = some c) | _ => false) == some true)) hi).trans h2
theorem am_Gl.warm {s U : State} (hW : s.WarmedH U.vm) (h : am_Gl s) : am_Gl U := ⟨h.1.moved hW.alike, am_AOA.moved hW.alike h.2.1, va_Nw.warmM hW h.2.2.1, va_Nw.warmM hW h.2.2.2⟩
theorem am_Gl.same {u U : State} (hvm : u.vm = U.vm) (h : am_Gl u) : am_Gl U := ⟨h.1.moved (by rw [hvm]; exact Vm.Alike.refl _), am_AOA.moved (by rw [hvm]; exact Vm.Alike.refl _) h.2.1, va_Nw.same rfl hvm h.2.2.1, va_Nw.same rfl hvm h.2.2.2⟩
def am_Pc (G : va_G) (cl : List vw_C) (dT : Nat → ClassId) (sh : Nat → am_Sh) (ρ : Nat → Nat) (N : Nat) (D : am_D) (sz : Nat) (vs : List Value) : Array Value → State → Prop := va_Pc (vs.map (am_v ρ)) (fun U => U.heap.size = sz ∧ va_P G cl (am_W sh dT ρ N D) U.heap ∧ va_K G cl (am_ty dT) U ∧ va_D (fun _ => True) (am_W sh dT ρ N D) ∧ am_Gl U)
def am_Qc (G : va_G) (cl : List vw_C) (dT : Nat → ClassId) (sh : Nat → am_Sh) (ρ : Nat → Nat) (N : Nat) (D : am_D) (sz : Nat) (k : Option Value → am_D → Nat → Prop) : Array Value → State → Outcome → State → Prop := fun _ st oc t =>
  (∃ (v : Option Value) (ρ' : Nat → Nat) (N' : Nat) (D' : am_D), oc = .returned (v.map (am_v ρ')) ∧ k v D' N' ∧ N ≤ N' ∧ (∀ n, n < N → ρ' n = ρ n) ∧ am_Rk sh N' D' ∧ (∀ w ∈ v, am_okv N' w) ∧ va_P G cl (am_W sh dT ρ' N' D') t.heap ∧ va_D (va_A (am_W sh dT ρ N D) sz) (am_W sh dT ρ' N' D')) ∧ va_F (va_A (am_W sh dT ρ N D) sz) st t
def am_Ctr (l : Launch) (cl : List vw_C) (sh : Nat → am_Sh) (y : MethodName) (ws : List Cond) (rm : Room) (mc ms : Nat) (P : am_P) : Prop := ∀ (G : va_G) (dT : Nat → ClassId) (ρ : Nat → Nat) (N : Nat) (D : am_D) (sz : Nat) (vs : List Value) (k : Option Value → am_D → Nat → Prop), am_Rk sh N D → (∀ v ∈ vs, am_okv N v) → P vs D N k → Met l y ws rm (am_Pc G cl dT sh ρ N D sz vs) (am_Qc G cl dT sh ρ N D sz k) mc ms (va_A (am_W sh dT ρ N D) sz)
def am_rcv (sh : Nat → am_Sh) (ci : Nat) (vs : List Value) : Prop := am_p0 vs fun v _ => am_n v fun b => am_ob (sh b) ci fun _ => True
def am_call (RC RS n mc ms : Nat) (P : am_P) (st : List Value) (D : am_D) (a : am_A) (k : List Value → am_D → am_A → Prop) : Prop := n ≤ st.length ∧ st.length ≤ n + 8 ∧ a.2.1 + mc ≤ RC ∧ a.2.2 + ms ≤ RS ∧ P (st.take n).reverse D a.1 (fun v D' N' => k (v.toList ++ st.drop n) D' (N', a.2.1 + mc, a.2.2 + ms))
def am_rcv0 (vs : List Value) : Prop := am_p0 vs fun v _ => am_n v fun _ => True
def am_callV (sh : Nat → am_Sh) (RC RS ci n mc ms : Nat) (P : am_P) (st : List Value) (D : am_D) (a : am_A) (k : List Value → am_D → am_A → Prop) : Prop := am_rcv sh ci (st.take n).reverse ∧ am_call RC RS n mc ms P st D a k
theorem am_blind {G : va_G} {cl : List vw_C} {dT : Nat → ClassId} {sh : Nat → am_Sh} {ρ : Nat → Nat} {N : Nat} {D : am_D} {sz : Nat} {vs : List Value} : FrameBlind (am_Pc G cl dT sh ρ N D sz vs) := fun a U g mk q => by
  obtain ⟨q0, q1, qP, qK, qD, qG⟩ := q
  exact ⟨q0, q1, qP, va_K.moved (u := U) (U := U.calling g mk a) (Vm.Alike.refl U.vm) qK, qD, am_Gl.same (u := U) (U := U.calling g mk a) rfl qG⟩
theorem am_cats {N : Nat} {ρ : Nat → Nat} : ∀ {st : List Value}, (∀ v ∈ st, am_okv N v) → ((st.map (am_v ρ)).map fun v => v.category).sum = st.length
  | [], _ => rfl
  | v :: r, h => by
    rw [List.map_cons, List.map_cons, List.sum_cons, am_v_cat (h v List.mem_cons_self), am_cats (fun w hw => h w (List.mem_cons_of_mem _ hw)), List.length_cons]
    omega
section AMC
variable {p : Program} {l : Launch} {e : Env} {R : Room} {s : State} {m : MethodId} {args : Array Value} {below : List Frame} {meth : Method} {c : Code} {Qw : State → Prop} {cc : ByteArray} {nL : Nat}
variable {G : va_G} {cl : List vw_C} {dT : Nat → ClassId} {A : Nat → Prop} {H0 : Heap} {sh : Nat → am_Sh} {own : String} {Ts : List Cond}
variable {pc : Nat} {st : List Value} {D : am_D} {a : am_A} {k : List Value → am_D → am_A → Prop}
theorem am_cont {ρ : Nat → Nat} {N mc ms cells slots : Nat} {H : Heap} {locs : List Loc} {ls : Array Slot} {st0 rest : List Value} {av : Array Value} {k' : Option Value → am_D → Nat → Prop} (hr : va_Run p l e R s m args below meth c H locs cells slots mc ms (F0 m pc ls st0) rest (am_Qc G cl dT sh ρ N D H.size k' av) (va_A (am_W sh dT ρ N D) H.size)) (hD : va_D A (am_W sh dT ρ N D)) (hS : va_S A H0 H locs) (hA : ∀ q, H0.size ≤ q → A q)
    (kk : ∀ (v : Option Value) (ρ' : Nat → Nat) (N' : Nat) (D' : am_D) (H1 : Heap) (locs1 : List Loc), k' v D' N' → N ≤ N' → (∀ n, n < N → ρ' n = ρ n) → am_Rk sh N' D' → (∀ w ∈ v, am_okv N' w) → va_P G cl (am_W sh dT ρ' N' D') H1 → va_D A (am_W sh dT ρ' N' D') → va_S A H0 H1 locs1 → W p l e R s m args below meth c H1 locs1 (cells + mc) (slots + ms) Qw (F0 m (pc + 3) ls (v.toList.map (am_v ρ') ++ rest))) : W p l e R s m args below meth c H locs cells slots Qw (F0 m pc ls st0) := by
  intro T hT X
  obtain ⟨v, st₀, t, T', L, h0, X', hL, e1, e2, ⟨⟨v', ρ', N', D', hv, hk', hN, hag, hRk, hok, hP', hD'⟩, hz, hk⟩, st⟩ := hr T hT X
  have hv : v = v'.map (am_v ρ') := Outcome.returned.inj hv
  subst hv
  rw [h0] at hz hk
  have hF : ∀ q, va_A (am_W sh dT ρ N D) H.size q → A q := by
    rintro q (⟨k, x, hq⟩ | hq)
    · exact hD.2 k (q, x) hq
    · exact hA q (Nat.le_trans hS.1 hq)
  obtain ⟨t2, a1, b1⟩ := kk v' ρ' N' D' T'.heap (locs ++ L) hk' hN hag hRk hok (by rw [e1]; exact hP') (hD'.weaken (fun _ _ _ h => hF _ h))
    ⟨Nat.le_trans hS.1 (by rw [e1]; exact hz), fun q h1 h2 => by rw [e1, hk q (Nat.lt_of_lt_of_le h1 hS.1) (fun z => h2 (hF q z))]; exact hS.2.1 q h1 h2, fun q hq => by
      rcases List.mem_append.mp hq with h | h
      · exact hS.2.2 q h
      · exact hF _ (hL q h)⟩ T' rfl X'
  have hto : (v'.map (am_v ρ')).toList = v'.toList.map (am_v ρ') := by cases v' <;> rfl
  rw [hto] at st
  exact ⟨t2, st t2 a1, b1⟩
/-- what a call needs of the stack, in names -/
theorem am_callR {ρ : Nat → Nat} {n mc ms : Nat} {P : am_P} {y : MethodName} {ws : List Cond} {rm : Room} {H : Heap} {locs : List Loc} {ls : Array Slot} {av : Array Value} (hst : ∀ v ∈ st, am_okv a.1 v) (hRel : am_Rel G cl dT A H0 sh ρ D a H locs) (hA : ∀ q, H0.size ≤ q → A q)
    (hr : va_Run p l e R s m args below meth c H locs a.2.1 a.2.2 mc ms (F0 m pc ls (st.map (am_v ρ))) ((st.drop n).map (am_v ρ)) (am_Qc G cl dT sh ρ a.1 D H.size (fun v D' N' => k (v.toList ++ st.drop n) D' (N', a.2.1 + mc, a.2.2 + ms)) av) (va_A (am_W sh dT ρ a.1 D) H.size))
    (kk : ∀ (st' : List Value) (D' : am_D) (a' : am_A) (ρ' : Nat → Nat) (H' : Heap) (locs' : List Loc), k st' D' a' → a.1 ≤ a'.1 → (∀ n, n < a.1 → ρ' n = ρ n) → am_Rel G cl dT A H0 sh ρ' D' a' H' locs' → (∀ v ∈ st', am_okv a'.1 v) → W p l e R s m args below meth c H' locs' a'.2.1 a'.2.2 Qw (F0 m (pc + 3) ls (st'.map (am_v ρ')))) : W p l e R s m args below meth c H locs a.2.1 a.2.2 Qw (F0 m pc ls (st.map (am_v ρ))) := by
  obtain ⟨hP, hD, hS, hk⟩ := hRel
  refine am_cont hr hD hS hA (fun v ρ' N' D' H1 locs1 q1 q2 q3 q4 q5 q6 q7 q8 => ?_)
  have hrest : ∀ w ∈ st.drop n, am_okv a.1 w := fun w hw => hst w (List.mem_of_mem_drop hw)
  have := kk _ D' _ ρ' H1 locs1 q1 q2 q3 ⟨q6, q7, q8, q4⟩ (fun w hw => by
    rcases List.mem_append.mp hw with h | h
    · exact q5 w (Option.mem_toList.mp h)
    · exact am_okv_mono q2 (hrest w h))
  rw [List.map_append, am_v_map q3 hrest] at this
  exact this
theorem am_callV_s (hx : p.tables.exec = Jvm.exec) (hb : c.code = cc) (hml : c.maxLocals = nL) (hown : s.vm.findClass own = some m.cls) (hts : ∀ w ∈ Ts, w.before args s = true) (hK : va_K G cl (am_ty dT) s) (hGl : am_Gl s) (hA : ∀ q, H0.size ≤ q → A q) {y : MethodName} {ws : List Cond} {rm : Room} {mc ms n ci index RC RS : Nat} {P : am_P} {C : String} {T : u_T} {Nf : Nat} {bytes : ByteArray} {maxL : Nat} {ret : Option FieldType}
    (hM : am_Ctr l cl sh y ws rm mc ms P) (hc : cl[ci]? = some (C, T, Nf)) (cw : CallW R s args own C index y bytes maxL ret ws rm mc ms n) (hRC : RC = R.cells) (hRS : RS = R.slots) (hd : decode cc pc = .ok (.invokevirtual index, 3)) (h : am_callV sh RC RS ci (n + 1) mc ms P st D a k) : am_SS p l e R s m args below meth c Qw nL (am_Rel G cl dT A H0 sh) pc 3 st D a k := by
  subst hRC; subst hRS
  obtain ⟨h0, h1, h2, h3, h4, h5⟩ := h
  obtain ⟨v, As, hvs, g0⟩ := am_p0_e h0
  obtain ⟨b, rfl, g1⟩ := am_n_e g0
  obtain ⟨ks, hs, -⟩ := am_ob_e g1
  intro ρ H locs ls hsz hR hst kk
  obtain ⟨hP, hD, hS, hk⟩ := id hR
  have hvo : ∀ v ∈ (st.take (n + 1)).reverse, am_okv a.1 v := fun v hv => hst v (List.mem_of_mem_take (List.mem_reverse.mp hv))
  have htk : st.take (n + 1) = As.reverse ++ [.ref b] := by
    have := congrArg List.reverse hvs
    simpa using this
  have hlen : As.length = n := by
    have := congrArg List.length htk
    simp [List.length_take] at this
    omega
  have hst2 : st = As.reverse ++ .ref b :: st.drop (n + 1) := by
    conv => lhs; rw [← List.take_append_drop (n + 1) st, htk]
    simp
  have hbN : b < a.1 := hvo (.ref b) (by rw [hvs]; exact List.mem_cons_self)
  rw [hvs] at h5 hvo
  have hrest : ∀ w ∈ st.drop (n + 1), am_okv a.1 w := fun w hw => hst w (List.mem_of_mem_drop hw)
  have he : (am_W sh dT ρ a.1 D)[b]? = some (ρ b, .inr (ci, ks.mapIdx fun i k => am_v ρ (am_va k (D b i)))) := by rw [am_W_at hbN, hs]; rfl
  refine am_callR (P := P) (y := y) (ws := ws) (rm := rm) (n := n + 1) (mc := mc) (ms := ms) (av := (Value.ref (ρ b) :: As.map (am_v ρ)).toArray) hst hR hA ?_ kk
  refine va_runV (As := As.map (am_v ρ)) (b := ρ b) ⟨hx, hb, hml, hown, hts⟩ (hM G dT ρ a.1 D H.size (.ref b :: As) _ hk hvo h5) cw ⟨am_blind, va_recv hK hP hc he, fun U hU hW => ⟨rfl, by rw [hU], by rw [hU]; exact hP, va_K.moved hW.alike hK, hD.weaken (fun _ _ _ _ => trivial), hGl.warm hW⟩⟩ rfl (by rw [List.length_map]; exact hlen) hsz ?_ ?_ hd ⟨h3, h4⟩
  · show st.map (am_v ρ) = _
    conv => lhs; rw [hst2]
    simp [am_v]
  · refine lv_room ?_
    rw [am_cats hrest, List.length_drop]
    omega
theorem am_callS_s (hx : p.tables.exec = Jvm.exec) (hb : c.code = cc) (hml : c.maxLocals = nL) (hown : s.vm.findClass own = some m.cls) (hts : ∀ w ∈ Ts, w.before args s = true) (hK : va_K G cl (am_ty dT) s) (hGl : am_Gl s) (hA : ∀ q, H0.size ≤ q → A q) {y : MethodName} {ws : List Cond} {rm : Room} {mc ms n index RC RS : Nat} {P : am_P} {bytes : ByteArray} {maxL : Nat} {ret : Option FieldType}
    (hM : am_Ctr l cl sh y ws rm mc ms P) (cw : CallB R s args own index y bytes maxL ret ws rm mc ms n ∧ (Cond.static y).before args s = true) (hRC : RC = R.cells) (hRS : RS = R.slots) (hd : decode cc pc = .ok (.invokestatic index, 3)) (h : am_call RC RS n mc ms P st D a k) : am_SS p l e R s m args below meth c Qw nL (am_Rel G cl dT A H0 sh) pc 3 st D a k := by
  subst hRC; subst hRS
  obtain ⟨h1, h2, h3, h4, h5⟩ := h
  intro ρ H locs ls hsz hR hst kk
  obtain ⟨hP, hD, hS, hk⟩ := id hR
  have hvo : ∀ v ∈ (st.take n).reverse, am_okv a.1 v := fun v hv => hst v (List.mem_of_mem_take (List.mem_reverse.mp hv))
  have hrest : ∀ w ∈ st.drop n, am_okv a.1 w := fun w hw => hst w (List.mem_of_mem_drop hw)
  refine am_callR (P := P) (y := y) (ws := ws) (rm := rm) (n := n) (mc := mc) (ms := ms) (av := ((st.take n).reverse.map (am_v ρ)).toArray) hst hR hA ?_ kk
  refine va_runS (As := (st.take n).reverse.map (am_v ρ)) ⟨hx, hb, hml, hown, hts⟩ (hM G dT ρ a.1 D H.size _ _ hk hvo h5) cw ⟨am_blind, fun U hU hW => ⟨rfl, by rw [hU], by rw [hU]; exact hP, va_K.moved hW.alike hK, hD.weaken (fun _ _ _ _ => trivial), hGl.warm hW⟩⟩ rfl (by simp [List.length_take]; omega) hsz ?_ ?_ hd ⟨h3, h4⟩
  · show st.map (am_v ρ) = _
    rw [List.map_reverse, List.reverse_reverse, ← List.map_append, List.take_append_drop]
  · refine lv_room ?_
    rw [am_cats hrest, List.length_drop]
    omega
theorem am_callI_s (hx : p.tables.exec = Jvm.exec) (hb : c.code = cc) (hml : c.maxLocals = nL) (hown : s.vm.findClass own = some m.cls) (hts : ∀ w ∈ Ts, w.before args s = true) (hK : va_K G cl (am_ty dT) s) (hGl : am_Gl s) (hA : ∀ q, H0.size ≤ q → A q) {y : MethodName} {ws : List Cond} {rm : Room} {mc ms n index RC RS : Nat} {P : am_P} {bytes : ByteArray} {maxL : Nat}
    (hM : am_Ctr l cl sh y ws rm mc ms P) (cw : CallB R s args own index y bytes maxL none ws rm mc ms n ∧ y.name = "<init>" ∧ (Cond.instanceMethod y).before args s = true) (hRC : RC = R.cells) (hRS : RS = R.slots) (hd : decode cc pc = .ok (.invokespecial index, 3)) (h : am_rcv0 (st.take (n + 1)).reverse ∧ am_call RC RS (n + 1) mc ms P st D a k) : am_SS p l e R s m args below meth c Qw nL (am_Rel G cl dT A H0 sh) pc 3 st D a k := by
  subst hRC; subst hRS
  obtain ⟨h0, h1, h2, h3, h4, h5⟩ := h
  obtain ⟨v, As, hvs, g0⟩ := am_p0_e h0
  obtain ⟨b, rfl, -⟩ := am_n_e g0
  intro ρ H locs ls hsz hR hst kk
  obtain ⟨hP, hD, hS, hk⟩ := id hR
  have hvo : ∀ v ∈ (st.take (n + 1)).reverse, am_okv a.1 v := fun v hv => hst v (List.mem_of_mem_take (List.mem_reverse.mp hv))
  have htk : st.take (n + 1) = As.reverse ++ [.ref b] := by
    have := congrArg List.reverse hvs
    simpa using this
  have hlen : As.length = n := by
    have := congrArg List.length htk
    simp [List.length_take] at this
    omega
  have hst2 : st = As.reverse ++ .ref b :: st.drop (n + 1) := by
    conv => lhs; rw [← List.take_append_drop (n + 1) st, htk]
    simp
  rw [hvs] at h5 hvo
  have hrest : ∀ w ∈ st.drop (n + 1), am_okv a.1 w := fun w hw => hst w (List.mem_of_mem_drop hw)
  refine am_callR (P := P) (y := y) (ws := ws) (rm := rm) (n := n + 1) (mc := mc) (ms := ms) (av := (Value.ref (ρ b) :: As.map (am_v ρ)).toArray) hst hR hA ?_ kk
  refine va_runI (As := As.map (am_v ρ)) (b := ρ b) ⟨hx, hb, hml, hown, hts⟩ (hM G dT ρ a.1 D H.size (.ref b :: As) _ hk hvo h5) cw ⟨am_blind, fun U hU hW => ⟨rfl, by rw [hU], by rw [hU]; exact hP, va_K.moved hW.alike hK, hD.weaken (fun _ _ _ _ => trivial), hGl.warm hW⟩⟩ rfl (by rw [List.length_map]; exact hlen) hsz ?_ ?_ hd ⟨h3, h4⟩
  · show st.map (am_v ρ) = _
    conv => lhs; rw [hst2]
    simp [am_v]
  · refine lv_room ?_
    rw [am_cats hrest, List.length_drop]
    omega
theorem am_callSN_s (hx : p.tables.exec = Jvm.exec) (hb : c.code = cc) (hml : c.maxLocals = nL) (hown : s.vm.findClass own = some m.cls) (hts : ∀ w ∈ Ts, w.before args s = true) (hK : va_K G cl (am_ty dT) s) (hGl : am_Gl s) (hA : ∀ q, H0.size ≤ q → A q) {y : MethodName} {ws : List Cond} {rm : Room} {mc ms n index RC RS : Nat} {P : am_P} {bytes : ByteArray} {maxL : Nat} {ret : Option FieldType} {host : String}
    (hM : am_Ctr l cl sh y ws rm mc ms P) (cw : va_CN R s args own index y host bytes maxL ret ws rm mc ms n ∧ (Cond.static y).before args s = true ∧ True) (hRC : RC = R.cells) (hRS : RS = R.slots) (hd : decode cc pc = .ok (.invokestatic index, 3)) (h : am_call RC RS n mc ms P st D a k) : am_SS p l e R s m args below meth c Qw nL (am_Rel G cl dT A H0 sh) pc 3 st D a k := by
  subst hRC; subst hRS
  obtain ⟨h1, h2, h3, h4, h5⟩ := h
  intro ρ H locs ls hsz hR hst kk
  obtain ⟨hP, hD, hS, hk⟩ := id hR
  have hvo : ∀ v ∈ (st.take n).reverse, am_okv a.1 v := fun v hv => hst v (List.mem_of_mem_take (List.mem_reverse.mp hv))
  have hrest : ∀ w ∈ st.drop n, am_okv a.1 w := fun w hw => hst w (List.mem_of_mem_drop hw)
  refine am_callR (P := P) (y := y) (ws := ws) (rm := rm) (n := n) (mc := mc) (ms := ms) (av := ((st.take n).reverse.map (am_v ρ)).toArray) hst hR hA ?_ kk
  refine va_runSN (As := (st.take n).reverse.map (am_v ρ)) ⟨hx, hb, hml, hown, hts⟩ (hM G dT ρ a.1 D H.size _ _ hk hvo h5) cw ⟨am_blind, fun U hU hW => ⟨rfl, by rw [hU], by rw [hU]; exact hP, va_K.moved hW.alike hK, hD.weaken (fun _ _ _ _ => trivial), hGl.warm hW⟩⟩ rfl (by simp [List.length_take]; omega) hsz ?_ ?_ hd ⟨h3, h4⟩
  · show st.map (am_v ρ) = _
    rw [List.map_reverse, List.reverse_reverse, ← List.map_append, List.take_append_drop]
  · refine lv_room ?_
    rw [am_cats hrest, List.length_drop]
    omega
theorem am_callIN_s (hx : p.tables.exec = Jvm.exec) (hb : c.code = cc) (hml : c.maxLocals = nL) (hown : s.vm.findClass own = some m.cls) (hts : ∀ w ∈ Ts, w.before args s = true) (hK : va_K G cl (am_ty dT) s) (hGl : am_Gl s) (hA : ∀ q, H0.size ≤ q → A q) {y : MethodName} {ws : List Cond} {rm : Room} {mc ms n index RC RS : Nat} {P : am_P} {bytes : ByteArray} {maxL : Nat} {host : String}
    (hM : am_Ctr l cl sh y ws rm mc ms P) (cw : va_CN R s args own index y host bytes maxL none ws rm mc ms n ∧ y.name = "<init>" ∧ (Cond.instanceMethod y).before args s = true) (hRC : RC = R.cells) (hRS : RS = R.slots) (hd : decode cc pc = .ok (.invokespecial index, 3)) (h : am_rcv0 (st.take (n + 1)).reverse ∧ am_call RC RS (n + 1) mc ms P st D a k) : am_SS p l e R s m args below meth c Qw nL (am_Rel G cl dT A H0 sh) pc 3 st D a k := by
  subst hRC; subst hRS
  obtain ⟨h0, h1, h2, h3, h4, h5⟩ := h
  obtain ⟨v, As, hvs, g0⟩ := am_p0_e h0
  obtain ⟨b, rfl, -⟩ := am_n_e g0
  intro ρ H locs ls hsz hR hst kk
  obtain ⟨hP, hD, hS, hk⟩ := id hR
  have hvo : ∀ v ∈ (st.take (n + 1)).reverse, am_okv a.1 v := fun v hv => hst v (List.mem_of_mem_take (List.mem_reverse.mp hv))
  have htk : st.take (n + 1) = As.reverse ++ [.ref b] := by
    have := congrArg List.reverse hvs
    simpa using this
  have hlen : As.length = n := by
    have := congrArg List.length htk
    simp [List.length_take] at this
    omega
  have hst2 : st = As.reverse ++ .ref b :: st.drop (n + 1) := by
    conv => lhs; rw [← List.take_append_drop (n + 1) st, htk]
    simp
  rw [hvs] at h5 hvo
  have hrest : ∀ w ∈ st.drop (n + 1), am_okv a.1 w := fun w hw => hst w (List.mem_of_mem_drop hw)
  refine am_callR (P := P) (y := y) (ws := ws) (rm := rm) (n := n + 1) (mc := mc) (ms := ms) (av := (Value.ref (ρ b) :: As.map (am_v ρ)).toArray) hst hR hA ?_ kk
  refine va_runIN (As := As.map (am_v ρ)) (b := ρ b) ⟨hx, hb, hml, hown, hts⟩ (hM G dT ρ a.1 D H.size (.ref b :: As) _ hk hvo h5) cw ⟨am_blind, fun U hU hW => ⟨rfl, by rw [hU], by rw [hU]; exact hP, va_K.moved hW.alike hK, hD.weaken (fun _ _ _ _ => trivial), hGl.warm hW⟩⟩ rfl (by rw [List.length_map]; exact hlen) hsz ?_ ?_ hd ⟨h3, h4⟩
  · show st.map (am_v ρ) = _
    conv => lhs; rw [hst2]
    simp [am_v]
  · refine lv_room ?_
    rw [am_cats hrest, List.length_drop]
    omega
end AMC
