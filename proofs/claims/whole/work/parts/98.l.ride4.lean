/-! ===== the law's helper ride: it catches ===== -/
theorem va_D1 {A : Nat → Prop} {q : Nat × va_E} (h : A q.1) : va_D A [q] := by
  have key : ∀ (k : Nat) (z : Nat × va_E), ([q] : va_W)[k]? = some z → k = 0 ∧ z = q := fun k z hk => by
    cases k with
    | zero => exact ⟨rfl, (Option.some.inj hk).symm⟩
    | succ n => cases hk
  refine ⟨fun i j a b ha hb _ => by rw [(key i a ha).1, (key j b hb).1], fun k z hk => ?_⟩
  rw [(key k z hk).2]
  exact h
theorem va_P_app {G : va_G} {cl : List vw_C} {ws vs : va_W} {H : Heap} (h1 : va_P G cl ws H) (h2 : va_P G cl vs H) : va_P G cl (ws ++ vs) H := fun k q hk => by
  by_cases h : k < ws.length
  · rw [List.getElem?_append_left h] at hk
    exact h1 k q hk
  · rw [List.getElem?_append_right (by omega)] at hk
    exact h2 _ q hk
theorem va_P_l {G : va_G} {cl : List vw_C} {ws vs : va_W} {H : Heap} (h : va_P G cl (ws ++ vs) H) : va_P G cl ws H := fun k q hk => h k q (by rw [List.getElem?_append_left (List.getElem?_eq_some_iff.mp hk).1]; exact hk)
theorem va_P_r {G : va_G} {cl : List vw_C} {ws vs : va_W} {H : Heap} (h : va_P G cl (ws ++ vs) H) : va_P G cl vs H := fun k q hk => h (ws.length + k) q (by rw [List.getElem?_append_right (by omega), Nat.add_sub_cancel_left]; exact hk)
theorem va_D_app {A : Nat → Prop} {ws vs : va_W} (h1 : va_D A ws) (h2 : va_D A vs) (hj : lw_dj ws vs) : va_D A (ws ++ vs) := by
  have key : ∀ (k : Nat) (q : Nat × va_E), (ws ++ vs)[k]? = some q → (k < ws.length ∧ ws[k]? = some q) ∨ (ws.length ≤ k ∧ vs[k - ws.length]? = some q) := fun k q hk => by
    by_cases h : k < ws.length
    · rw [List.getElem?_append_left h] at hk
      exact Or.inl ⟨h, hk⟩
    · rw [List.getElem?_append_right (by omega)] at hk
      exact Or.inr ⟨by omega, hk⟩
  refine ⟨fun i j a b ha hb e => ?_, fun k q hk => ?_⟩
  · rcases key i a ha with ⟨i1, i2⟩ | ⟨i1, i2⟩ <;> rcases key j b hb with ⟨j1, j2⟩ | ⟨j1, j2⟩
    · exact h1.1 i j a b i2 j2 e
    · exact absurd e (hj _ _ _ _ i2 j2)
    · exact absurd e.symm (hj _ _ _ _ j2 i2)
    · have := h2.1 _ _ a b i2 j2 e
      omega
  · rcases key k q hk with ⟨i1, i2⟩ | ⟨i1, i2⟩
    · exact h1.2 k q i2
    · exact h2.2 _ q i2
theorem am_W_len {sh : Nat → am_Sh} {dT : Nat → ClassId} {ρ : Nat → Nat} {N : Nat} {D : am_D} : (am_W sh dT ρ N D).length = N := by
  unfold am_W
  rw [List.length_map, List.length_range]
theorem lw_o1 {G : va_G} {cl : List vw_C} {o : Nat} {cL : ClassId} {H : Heap} {f : Nat → Int64} {y : Int32} (h : va_P G cl [(o, .inl (cL, 1, .inr (.inl f)))] H) (hf : f 0 = y.toInt64) : va_P G cl [(o, lw_o cL y)] H := fun k q hk => by
  cases k with
  | succ n => cases hk
  | zero =>
    obtain rfl := Option.some.inj hk
    show H[o]? = some (arrV cL 1 (fun _ => .long y.toInt64))
    have h0 : H[o]? = some (arrV cL 1 (fun j => .long (f j))) := h 0 _ rfl
    rw [h0]
    unfold arrV
    refine congrArg (fun z => some ({ cls := cL, slots := z, vm := .none } : Cell)) (congrArg Array.ofFn (funext fun j => ?_))
    rw [show j.val = 0 by omega]
    exact congrArg Value.long hf
def lr_A (L : Nat) (dT : Nat → ClassId) (ρ : Nat → Nat) (N : Nat) (D : am_D) (sz o : Nat) : Nat → Prop := fun q => va_A (am_W (sd_sh L) dT ρ N D) sz q ∨ q = o
def lr_P (L : Nat) (G : va_G) (dT : Nat → ClassId) (cL : ClassId) (ρ : Nat → Nat) (N : Nat) (D : am_D) (sz : Nat) (x w : Int32) (o : Nat) (y : Int32) : Array Value → State → Prop := va_Pc [.ref (ρ 0), .int x, .int w, .ref o] (fun U => U.heap.size = sz ∧ (va_P G vwCl (am_W (sd_sh L) dT ρ N D) U.heap ∧ va_P G vwCl [(o, lw_o cL y)] U.heap) ∧ (va_K G vwCl (am_ty dT) U ∧ va_K G vwCl [(cL, .long)] U) ∧ va_D (fun _ => True) (am_W (sd_sh L) dT ρ N D) ∧ am_Gl U ∧ rd_T (lr_A L dT ρ N D sz o) U)
def lr_Q (L : Nat) (G : va_G) (dT : Nat → ClassId) (cL : ClassId) (ρ : Nat → Nat) (N : Nat) (D : am_D) (sz : Nat) (x w : Int32) (o : Nat) (y : Int32) : Array Value → State → Outcome → State → Prop := fun _ st oc t => ∃ (ρ' : Nat → Nat) (z y' : Int32), oc = .returned (some (.int z)) ∧ (∀ n, n < N → ρ' n = ρ n) ∧ (va_P G vwCl (am_W (sd_sh L) dT ρ' N D) t.heap ∧ va_P G vwCl [(o, lw_o cL y')] t.heap) ∧ va_D (va_A (am_W (sd_sh L) dT ρ N D) sz) (am_W (sd_sh L) dT ρ' N D) ∧ va_F (lr_A L dT ρ N D sz o) st t ∧ ((rd_bad D x w ∧ z = 1 ∧ y' = y) ∨ (¬ rd_bad D x w ∧ z = 0 ∧ y' = dRideV D x.toNatClampNeg w.toNatClampNeg))
theorem rd_T.warm {A B : Nat → Prop} {s U : State} (hW : s.WarmedH U.vm) (hh : U.heap = s.heap) (hB : ∀ q, B q → A q) (h : rd_T A s) : rd_T B U := by
  obtain ⟨h0, ⟨sa, tx, h1⟩, ⟨sb, ty, h2⟩, h3, h4⟩ := h
  refine ⟨h0.warm hW, ⟨sa, tx, vk_R.warm hW h1⟩, ⟨sb, ty, vk_R.warm hW h2⟩, ?_, ?_⟩
  · rw [hh]; exact (vx_Zq.moved hW.alike h3).narrow hB
  · rw [hh]; exact (vx_Zq.moved hW.alike h4).narrow hB
theorem lr_blind {L : Nat} {G : va_G} {dT : Nat → ClassId} {cL : ClassId} {ρ : Nat → Nat} {N : Nat} {D : am_D} {sz : Nat} {x w : Int32} {o : Nat} {y : Int32} : FrameBlind (lr_P L G dT cL ρ N D sz x w o y) := fun a U g mk q => by
  obtain ⟨q0, q1, qP, ⟨qK, qL⟩, qD, qG, qT⟩ := q
  exact ⟨q0, q1, qP, ⟨va_K.moved (u := U) (U := U.calling g mk a) (Vm.Alike.refl U.vm) qK, va_K.moved (u := U) (U := U.calling g mk a) (Vm.Alike.refl U.vm) qL⟩, qD, am_Gl.same (u := U) (U := U.calling g mk a) rfl qG, qT.same (u := U) (U := U.calling g mk a) rfl rfl⟩
set_option maxHeartbeats 4000000 in
set_option maxRecDepth 20000 in
theorem ctL_ride {l : Launch} (hl : l.stackTraces = false) {L A : Nat} {D : am_D} {x w : Int32} (hO : dO L A D) (hW : dW L D) (G : va_G) (dT : Nat → ClassId) (cL : ClassId) (ρ : Nat → Nat) (sz o : Nat) (y : Int32) (hRk : am_Rk (sd_sh L) (21 + 2 * A) D) (ho : o < sz) (hdj : lw_dj (am_W (sd_sh L) dT ρ (21 + 2 * A) D) [(o, lw_o cL y)]) :
    vx_Met l yL_ride wsL_ride ({ frames := 7, cells := 1, slots := 6, locals := 104 } : Room) (lr_P L G dT cL ρ (21 + 2 * A) D sz x w o y) (lr_Q L G dT cL ρ (21 + 2 * A) D sz x w o y) (fun _ _ _ => False) 1 6 (lr_A L dT ρ (21 + 2 * A) D sz o) := by
  obtain ⟨N, hN⟩ : ∃ N, N = 21 + 2 * A := ⟨_, rfl⟩
  have ctR := fun ρ sz => ctX3_ride (x := x) (w := w) hl hO hW G dT ρ sz hRk
  rw [← hN] at hRk hdj ctR ⊢
  refine vx_ofWH (cc := cL_ride) (maxL := 5) (ret := some .int) (hh := [(0, 10, 13, 13)]) (by decide +kernel) rfl ?_
  intro p e s m args below meth c s₁ B hml hv
  obtain ⟨rfl, hsz, ⟨hPw, hPo⟩, ⟨hKw, hKl⟩, hD0, hGl, hT⟩ := hv
  subst hsz
  have hx := B.exec
  have hb := B.bytes
  have hr := B.returns
  have hts := atoms_spec (ws := wsL_ride) B.pre
  have hown : s.vm.findClass yL_ride.cls = some m.cls := findClass_of_methodNamed B.named
  have hlocks := B.notSynchronized
  have htab := vx_table (x := yL_ride) B (hts (.codeWith yL_ride cL_ride 5 (some .int) [(0, 10, 13, 13)]) List.mem_cons_self)
  have hl5 := lv_entry ([.ref (ρ 0), .int x, .int w, .ref o] : List Value) (n := 5) (Nat.le_of_ble_eq_true rfl)
  rw [lg_entry_eq]
  generalize (lg_sl [Value.ref (ρ 0), Value.int x, Value.int w, Value.ref o] ++ List.replicate (5 - (lg_sl [Value.ref (ρ 0), Value.int x, Value.int w, Value.ref o]).length) Slot.unset).toArray = ls at hl5
  have g0 : ls[0]? = some (.val (.ref (ρ 0))) := lv_at hl5 0 rfl
  have g1 : ls[1]? = some (.val (.int x)) := lv_at hl5 1 rfl
  have g2 : ls[2]? = some (.val (.int w)) := lv_at hl5 2 rfl
  have g3 : ls[3]? = some (.val (.ref o)) := lv_at hl5 3 rfl
  refine lv_aload_n hx hb (k := 3) (by decide +kernel) rfl g3 ?_
  refine lv_iconst hx hb (n := 0) (by decide +kernel) rfl ?_
  refine lv_aload_n hx hb (k := 0) (by decide +kernel) rfl g0 ?_
  refine lv_iload_n hx hb (k := 1) (by decide +kernel) rfl g1 ?_
  refine lv_iload_n hx hb (k := 2) (by decide +kernel) rfl g2 ?_
  have h0N : 0 < N := by omega
  have he : (am_W (sd_sh L) dT ρ N D)[0]? = some (ρ 0, .inr (3, [0, 4, 12, 15, 0, 16, 0, 21, 22, 23].mapIdx fun i k => am_v ρ (am_va k (D 0 i)))) := by rw [am_W_at h0N]; rfl
  have hrun := vx_runV (Ts := wsL_ride) (own := RL) (e := e) (below := below) (meth := meth) (R := (headSpec wsL_ride ({ frames := 7, cells := 1, slots := 6, locals := 104 } : Room)).room) (H := s.heap) (locs := []) (cells := 0) (slots := 0) (C := RX3) (b := ρ 0) (As := [.int x, .int w]) (rest := [.int 0, .ref o]) (g := F0 m 5 ls [.int w, .int x, .ref (ρ 0), .int 0, .ref o]) ⟨hx, hb, hml, hown, hts⟩ (ctR ρ s.heap.size) (cwV 2 hts gL_ride_X3_ride rfl rfl rfl (by decide +kernel) ⟨Nat.le_of_ble_eq_true rfl, Nat.le_of_ble_eq_true rfl⟩)
    ⟨rd_blind, va_recv hKw hPw (q := (RX3, TX3, 10)) rfl he, fun U hU hWU => ⟨rfl, by rw [hU], by rw [hU]; exact hPw, va_K.moved hWU.alike hKw, hD0, hGl.warm hWU, hT.warm hWU hU (fun q hq => Or.inl hq)⟩⟩ rfl rfl hl5.1 rfl (Nat.le_of_ble_eq_true rfl) (show decode cL_ride 5 = .ok (.invokevirtual 7, 3) by decide +kernel) ⟨Nat.le_of_ble_eq_true rfl, Nat.le_of_ble_eq_true rfl⟩
  have dj : ∀ q, va_A (am_W (sd_sh L) dT ρ N D) s.heap.size q → q ≠ o := fun q hq e => by
    rcases hq with ⟨k, z, hk⟩ | hq
    · exact hdj k 0 _ _ hk rfl e
    · omega
  intro T hT9 X
  rcases hrun T hT9 X with ⟨v, st₀, t, T', L1, h0, X', hL, e1, e2, ⟨⟨v', ρ', N', D', hv, ⟨hnb, rfl, rfl, rfl⟩, hN1, hag, hRk1, hok1, hP1, hD1⟩, hz, hk1⟩, st⟩ | ⟨q, st₀, t, T', L1, E, ce, h0, X', hL, e1, e2, ⟨hE, hbad, ⟨ρ', hag, hP1, hD1⟩, hz, hk1⟩, hce, hcv, hcl, st⟩
  · have hv : v = some (.int (dRideV D' x.toNatClampNeg w.toNatClampNeg)) := Outcome.returned.inj hv
    subst hv
    rw [h0] at hz hk1
    have hS1 : va_S (lr_A L dT ρ N' D' s.heap.size o) s.heap T'.heap ([] ++ L1) := ⟨by rw [e1]; exact hz, fun q h1 h2 => by rw [e1]; exact hk1 q h1 (fun z => h2 (Or.inl z)), fun q hq => Or.inl (hL q hq)⟩
    have hPo1 : va_P G vwCl [(o, lw_o cL y)] T'.heap := hPo.kept (fun k q hk => by
      rw [e1]
      refine hk1 _ ((hPo k q hk).lt) (fun z => ?_)
      have hq : q = (o, lw_o cL y) := by
        cases k with
        | zero => exact (Option.some.inj hk).symm
        | succ n => cases hk
      rw [hq] at z
      exact dj _ z rfl)
    have hgo : W p l e (headSpec wsL_ride ({ frames := 7, cells := 1, slots := 6, locals := 104 } : Room)).room s m #[.ref (ρ 0), .int x, .int w, .ref o] below meth c T'.heap ([] ++ L1) 1 6 (vx_MQ below (lr_Q L G dT cL ρ N' D' s.heap.size x w o y) (fun _ _ _ => False) #[.ref (ρ 0), .int x, .int w, .ref o] s 1 6 (lr_A L dT ρ N' D' s.heap.size o)) (F0 m 8 ls [.int (dRideV D' x.toNatClampNeg w.toNatClampNeg), .int 0, .ref o]) := by
      refine lv_i2l hx hb (by decide +kernel) rfl ?_
      have hdj1 : lw_dj (am_W (sd_sh L) dT ρ' N' D') [(o, lw_o cL y)] := fun i j a b ha hb' e9 => by
        have hb9 : b.1 = o := by
          cases j with
          | zero => rw [← Option.some.inj hb']
          | succ n => cases hb'
        exact dj a.1 (hD1.2 i a ha) (e9.trans hb9)
      have hD2 : va_D (lr_A L dT ρ N' D' s.heap.size o) (am_W (sd_sh L) dT ρ' N' D' ++ [(o, lw_o cL y)]) := va_D_app (hD1.weaken (fun _ _ _ h => Or.inl h)) (va_D1 (Or.inr rfl)) hdj1
      have hat : (am_W (sd_sh L) dT ρ' N' D' ++ [(o, lw_o cL y)])[N']? = some (o, lw_o cL y) := by
        rw [List.getElem?_append_right (by rw [am_W_len]; exact Nat.le_refl _), am_W_len, Nat.sub_self]
        rfl
      refine va_last hx hb hKl (va_P_app (by rw [e1]; exact hP1) hPo1) hD2 hS1 N' 0 hat rfl (vp_in_nI (n := 0) (N := 1) (by decide) (by decide)) (by decide +kernel) (fun H1 locs1 q1 q2 q3 => ?_)
      rw [List.set_append_right _ _ (by rw [am_W_len]; exact Nat.le_refl _), am_W_len, Nat.sub_self] at q1
      refine lv_goto hx hb (off := 7) (tgt := 17) (by decide +kernel) (by decide) ?_
      refine lv_iconst hx hb (n := 0) (by decide +kernel) rfl ?_
      refine vx_ret (W.iret hx hb hr ?_ q3.2.2 (by decide +kernel) hlocks)
      intro t9 ht9 _
      refine ⟨ρ', 0, dRideV D' x.toNatClampNeg w.toNatClampNeg, rfl, hag, ⟨by rw [ht9]; exact va_P_l q1, ?_⟩, hD1, q3.F ht9, Or.inr ⟨hnb, rfl, rfl⟩⟩
      rw [ht9]
      exact lw_o1 (va_P_r q1) rfl
    obtain ⟨t2, a1, b1⟩ := hgo T' rfl X'
    exact ⟨t2, st t2 a1, b1⟩
  · subst hE
    rw [h0] at hz hk1
    have hS1 : va_S (lr_A L dT ρ N D s.heap.size o) s.heap T'.heap ([] ++ L1) := ⟨by rw [e1]; exact hz, fun q h1 h2 => by rw [e1]; exact hk1 q h1 (fun z => h2 (Or.inl z)), fun q hq => Or.inl (hL q hq)⟩
    have hPo1 : va_P G vwCl [(o, lw_o cL y)] T'.heap := hPo.kept (fun k q hk => by
      rw [e1]
      refine hk1 _ ((hPo k q hk).lt) (fun z => ?_)
      have hq : q = (o, lw_o cL y) := by
        cases k with
        | zero => exact (Option.some.inj hk).symm
        | succ n => cases hk
      rw [hq] at z
      exact dj _ z rfl)
    have hgo : vx_W p l e (headSpec wsL_ride ({ frames := 7, cells := 1, slots := 6, locals := 104 } : Room)).room s m #[.ref (ρ 0), .int x, .int w, .ref o] below meth c T'.heap ([] ++ L1) 1 6 (vx_MQ below (lr_Q L G dT cL ρ N D s.heap.size x w o y) (fun _ _ _ => False) #[.ref (ρ 0), .int x, .int w, .ref o] s 1 6 (lr_A L dT ρ N D s.heap.size o)) (F0 m 5 ls [.int 0, .ref o]) q := by
      refine vx_catch hown [] ⟨0, 10, 13, 13⟩ [] htab (fun z hz => nomatch hz) (by decide) (by decide) (hts (.classLink RL 13 "java/util/NoSuchElementException") (by decide +kernel)) (hT.1.2.2.2.use rfl) (by rw [e1]; exact hce) hcv hcl ?_
      refine lv_astore hx hb (by decide +kernel) hl5 (i := 4) (by decide) rfl (fun ls' hs' => ?_)
      refine lv_iconst hx hb (n := 1) (by decide +kernel) rfl ?_
      refine vx_ret (W.iret hx hb hr ?_ hS1.2.2 (by decide +kernel) hlocks)
      intro t9 ht9 _
      exact ⟨ρ', 1, y, rfl, hag, ⟨by rw [ht9, e1]; exact hP1, by rw [ht9]; exact hPo1⟩, hD1, hS1.F ht9, Or.inl ⟨hbad, rfl, rfl⟩⟩
    obtain ⟨t2, a1, b1⟩ := hgo T' rfl X'
    exact ⟨t2, st.trans a1, b1⟩
