/-! ===== the law: its own memory ===== -/
/-- desk, reference and the law's own long in one memory -/
def jD (J : am_D) : am_D := fun n j => J (3 * n) j
def jM (J : am_D) : am_D := fun n j => J (3 * n + 1) j
def jO (J : am_D) : Int32 := J 2 0
def jJ (D M : am_D) (o : Int32) : am_D := fun n j => if n % 3 = 0 then D (n / 3) j else if n % 3 = 1 then M (n / 3) j else o
theorem jD_J {D M : am_D} {o : Int32} : jD (jJ D M o) = D := by
  funext n j
  unfold jD jJ
  rw [if_pos (by omega), show 3 * n / 3 = n by omega]
theorem jM_J {D M : am_D} {o : Int32} : jM (jJ D M o) = M := by
  funext n j
  unfold jM jJ
  rw [if_neg (by omega), if_pos (by omega), show (3 * n + 1) / 3 = n by omega]
theorem jO_J {D M : am_D} {o : Int32} : jO (jJ D M o) = o := by
  unfold jO jJ
  rw [if_neg (by omega), if_neg (by omega)]
def lw_o (cL : ClassId) (x : Int32) : va_E := .inl (cL, 1, .inr (.inl (fun _ => x.toInt64)))
/-- names: 0 the desk, 1 the reference, 2 the law's long, 3 the script -/
def lwRel (L b : Nat) (G : va_G) (dT : Nat → ClassId) (cL : ClassId) (A : Nat → Prop) (H0 : Heap) : (Nat → Nat) → am_D → am_A → Heap → List Loc → Prop := fun ρ J a H locs => a.1 = 4 ∧ ρ 3 = b ∧ ∃ (ρd ρm : Nat → Nat) (A' : Nat), ρ 0 = ρd 0 ∧ ρ 1 = ρm 0 ∧ dO L A' (jD J) ∧ (va_P G vwCl (am_W (sd_sh L) dT ρd (21 + 2 * A') (jD J)) H ∧ va_P G vwCl (am_W sm_sh dT ρm 18 (jM J)) H ∧ va_P G vwCl [(ρ 2, lw_o cL (jO J))] H) ∧ (va_D A (am_W (sd_sh L) dT ρd (21 + 2 * A') (jD J)) ∧ va_D A (am_W sm_sh dT ρm 18 (jM J)) ∧ A (ρ 2)) ∧ (lw_dj (am_W (sd_sh L) dT ρd (21 + 2 * A') (jD J)) (am_W sm_sh dT ρm 18 (jM J)) ∧ lw_dj (am_W (sd_sh L) dT ρd (21 + 2 * A') (jD J)) [(ρ 2, lw_o cL (jO J))] ∧ lw_dj (am_W sm_sh dT ρm 18 (jM J)) [(ρ 2, lw_o cL (jO J))]) ∧ va_S A H0 H locs ∧ am_Rk (sd_sh L) (21 + 2 * A') (jD J) ∧ am_Rk sm_sh 18 (jM J)
theorem lwRel.inj {L b : Nat} {G : va_G} {dT : Nat → ClassId} {cL : ClassId} {A : Nat → Prop} {H0 : Heap} (hbA : ¬ A b) (ρ : Nat → Nat) (J : am_D) (a : am_A) (H : Heap) (locs : List Loc) (h : lwRel L b G dT cL A H0 ρ J a H locs) : ∀ x y : Nat, x < a.1 → y < a.1 → ρ x = ρ y → x = y := by
  obtain ⟨ha, h3, ρd, ρm, A', h0, h1, hO, ⟨p1, p2, p3⟩, ⟨d1, d2, d3⟩, ⟨j1, j2, j3⟩, -⟩ := h
  have g1 := am_W_at (sh := sd_sh L) (dT := dT) (ρ := ρd) (D := jD J) (show 0 < 21 + 2 * A' by omega)
  have g2 := am_W_at (sh := sm_sh) (dT := dT) (ρ := ρm) (D := jM J) (show 0 < 18 by omega)
  have g3 : ([(ρ 2, lw_o cL (jO J))] : va_W)[0]? = some (ρ 2, lw_o cL (jO J)) := rfl
  have a0 : A (ρ 0) := by rw [h0]; exact d1.2 0 _ g1
  have a1 : A (ρ 1) := by rw [h1]; exact d2.2 0 _ g2
  have n3 : ∀ n, A (ρ n) → ρ n ≠ ρ 3 := fun n hn e => hbA (by rw [← h3, ← e]; exact hn)
  have n01 : ρ 0 ≠ ρ 1 := by rw [h0, h1]; exact j1 0 0 _ _ g1 g2
  have n02 : ρ 0 ≠ ρ 2 := by rw [h0]; exact j2 0 0 _ _ g1 g3
  have n12 : ρ 1 ≠ ρ 2 := by rw [h1]; exact j3 0 0 _ _ g2 g3
  have m0 := n3 0 a0
  have m1 := n3 1 a1
  have m2 := n3 2 d3
  intro x y hx hy e
  rw [ha] at hx hy
  rcases (show x = 0 ∨ x = 1 ∨ x = 2 ∨ x = 3 by omega) with rfl | rfl | rfl | rfl <;> rcases (show y = 0 ∨ y = 1 ∨ y = 2 ∨ y = 3 by omega) with rfl | rfl | rfl | rfl <;> first | rfl | exact absurd e n01 | exact absurd e.symm n01 | exact absurd e n02 | exact absurd e.symm n02 | exact absurd e n12 | exact absurd e.symm n12 | exact absurd e m0 | exact absurd e.symm m0 | exact absurd e m1 | exact absurd e.symm m1 | exact absurd e m2 | exact absurd e.symm m2
/-- a call of the desk -/
def lw_d (L n mc ms : Nat) (P : am_P) (st : List Value) (J : am_D) (a : am_A) (k : List Value → am_D → am_A → Prop) : Prop := ∃ (xs : List Int32) (r : List Value), st = (xs.map .int).reverse ++ .ref 0 :: r ∧ xs.length = n ∧ r.length ≤ 8 ∧ a.2.1 + mc ≤ 601024 ∧ a.2.2 + ms ≤ 7293000 ∧ ∀ A', dO L A' (jD J) → P (.ref 0 :: xs.map .int) (jD J) (21 + 2 * A') (fun v D' N' => (∃ A'', N' = 21 + 2 * A'' ∧ dO L A'' D') ∧ (∃ x, v = some (.int x)) ∧ k (v.toList ++ r) (jJ D' (jM J) (jO J)) (4, a.2.1 + mc, a.2.2 + ms))
/-- a call of the reference -/
def lw_m (n : Nat) (P : am_P) (st : List Value) (J : am_D) (a : am_A) (k : List Value → am_D → am_A → Prop) : Prop := ∃ (xs : List Int32) (r : List Value), st = (xs.map .int).reverse ++ .ref 1 :: r ∧ xs.length = n ∧ r.length ≤ 8 ∧ a.2.1 ≤ 601024 ∧ a.2.2 ≤ 7293000 ∧ P (.ref 0 :: xs.map .int) (jM J) 18 (fun v M' N' => N' = 18 ∧ (∃ x, v = some (.int x)) ∧ k (v.toList ++ r) (jJ (jD J) M' (jO J)) (4, a.2.1, a.2.2))
theorem lw_mapi {ρ : Nat → Nat} {xs : List Int32} : ((xs.map Value.int).reverse).map (am_v ρ) = (xs.map Value.int).reverse := by
  rw [← List.map_reverse, List.map_map]
  rfl
section LWB
variable {p : Program} {l : Launch} {e : Env} {s : State} {m : MethodId} {args : Array Value} {below : List Frame} {meth : Method} {c : Code} {Qw : State → Prop} {cc : ByteArray} {nL : Nat} {G : va_G} {dT : Nat → ClassId} {cL : ClassId} {A : Nat → Prop} {H0 : Heap} {pc L b : Nat} {J : am_D} {Ts : List Cond} {own : String} {st : List Value} {a : am_A} {k : List Value → am_D → am_A → Prop}
theorem lw_d_s (hx : p.tables.exec = Jvm.exec) (hb : c.code = cc) (hml : c.maxLocals = nL) (hown : s.vm.findClass own = some m.cls) (hts : ∀ w ∈ Ts, w.before args s = true) (hK : va_K G vwCl (am_ty dT) s) (hGl : am_Gl s) (hA : ∀ q, H0.size ≤ q → A q) {y : MethodName} {ws : List Cond} {rm : Room} {mc ms n index : Nat} {P : am_P} {bytes : ByteArray} {maxL : Nat} {ret : Option FieldType}
    (hM : am_Ctr l vwCl (sd_sh L) y ws rm mc ms P) (cw : CallW room_1 s args own RX3 index y bytes maxL ret ws rm mc ms n) (hd : decode cc pc = .ok (.invokevirtual index, 3)) (h : lw_d L n mc ms P st J a k) : am_SS p l e room_1 s m args below meth c Qw nL (lwRel L b G dT cL A H0) pc 3 st J a k := by
  obtain ⟨xs, r, rfl, hn, hr, hmc, hms, hp⟩ := h
  intro ρ H locs ls hsz hR hst kk
  obtain ⟨ha, h3, ρd, ρm, A', h0, h1, hO, ⟨p1, p2, p3⟩, ⟨d1, d2, d3⟩, ⟨j1, j2, j3⟩, hS, k1, k2⟩ := hR
  have hrest : ∀ w ∈ r, am_okv a.1 w := fun w hw => hst w (List.mem_append_right _ (List.mem_cons_of_mem _ hw))
  have hgo := lw_callV (Qw := Qw) (e := e) (below := below) (meth := meth) (R := room_1) hx hb hml hown hts hK hGl hA hM (ci := 3) (T := TX3) (Nf := 10) rfl cw hd (ρ := ρd) (rest := r.map (am_v ρ)) hsz (ks := [0, 4, 12, 15, 0, 16, 0, 21, 22, 23]) rfl (show 0 < 21 + 2 * A' by omega) hn p1 d1 hS k1 (hp A' hO) (by rw [am_cats hrest]; exact hr) hmc hms (fun v ρ' N' D' H1 locs1 q1 q2 q3 q4 q5 q6 q7 q8 q9 => by
    obtain ⟨⟨A'', rfl, hO'⟩, ⟨x, rfl⟩, hkk⟩ := q1
    obtain ⟨w1, w2⟩ := q9 _ p2 j1
    obtain ⟨w3, w4⟩ := q9 _ p3 j2
    have := kk _ _ _ ρ H1 locs1 hkk (by rw [ha]; exact Nat.le_refl _) (fun _ _ => rfl) ⟨rfl, h3, ρ', ρm, A'', h0.trans (q3 0 (by omega)).symm, h1, by rw [jD_J]; exact hO', ⟨by rw [jD_J]; exact q6, by rw [jM_J]; exact w1, by rw [jO_J]; exact w3⟩, ⟨by rw [jD_J]; exact q7, by rw [jM_J]; exact d2, d3⟩, ⟨by rw [jD_J, jM_J]; exact w2, by rw [jD_J, jO_J]; exact w4, by rw [jM_J, jO_J]; exact j3⟩, q8, by rw [jD_J]; exact q4, by rw [jM_J]; exact k2⟩ (fun w hw => by
      rcases List.mem_append.mp hw with z | z
      · obtain rfl : w = .int x := by simpa using z
        trivial
      · have := hrest w z
        rw [ha] at this
        exact this)
    rw [List.map_append] at this
    exact this)
  rw [List.map_append, List.map_cons, lw_mapi]
  rw [show am_v ρ (.ref 0) = .ref (ρd 0) from congrArg Value.ref h0]
  exact hgo
theorem lw_m_s (hx : p.tables.exec = Jvm.exec) (hb : c.code = cc) (hml : c.maxLocals = nL) (hown : s.vm.findClass own = some m.cls) (hts : ∀ w ∈ Ts, w.before args s = true) (hK : va_K G vwCl (am_ty dT) s) (hGl : am_Gl s) (hA : ∀ q, H0.size ≤ q → A q) {y : MethodName} {ws : List Cond} {rm : Room} {n index : Nat} {P : am_P} {bytes : ByteArray} {maxL : Nat} {ret : Option FieldType}
    (hM : am_Ctr l vwCl sm_sh y ws rm 0 0 P) (cw : CallW room_1 s args own RX4 index y bytes maxL ret ws rm 0 0 n) (hd : decode cc pc = .ok (.invokevirtual index, 3)) (h : lw_m n P st J a k) : am_SS p l e room_1 s m args below meth c Qw nL (lwRel L b G dT cL A H0) pc 3 st J a k := by
  obtain ⟨xs, r, rfl, hn, hr, hmc, hms, hp⟩ := h
  intro ρ H locs ls hsz hR hst kk
  obtain ⟨ha, h3, ρd, ρm, A', h0, h1, hO, ⟨p1, p2, p3⟩, ⟨d1, d2, d3⟩, ⟨j1, j2, j3⟩, hS, k1, k2⟩ := hR
  have hrest : ∀ w ∈ r, am_okv a.1 w := fun w hw => hst w (List.mem_append_right _ (List.mem_cons_of_mem _ hw))
  have hgo := lw_callV (Qw := Qw) (e := e) (below := below) (meth := meth) (R := room_1) hx hb hml hown hts hK hGl hA hM (ci := 4) (T := TX4) (Nf := 23) rfl cw hd (ρ := ρm) (rest := r.map (am_v ρ)) hsz (ks := [0, 0, 0, 4, 5, 6, 7, 8, 0, 9, 10, 11, 12, 13, 14, 15, 16, 0, 17, 18, 19, 0, 20]) rfl (show 0 < 18 by omega) hn p2 d2 hS k2 hp (by rw [am_cats hrest]; exact hr) hmc hms (fun v ρ' N' D' H1 locs1 q1 q2 q3 q4 q5 q6 q7 q8 q9 => by
    obtain ⟨rfl, ⟨x, rfl⟩, hkk⟩ := q1
    obtain ⟨w1, w2⟩ := q9 _ p1 j1.symm
    obtain ⟨w3, w4⟩ := q9 _ p3 j3
    have := kk _ _ _ ρ H1 locs1 hkk (by rw [ha]; exact Nat.le_refl _) (fun _ _ => rfl) ⟨rfl, h3, ρd, ρ', A', h0, h1.trans (q3 0 (by omega)).symm, by rw [jD_J]; exact hO, ⟨by rw [jD_J]; exact w1, by rw [jM_J]; exact q6, by rw [jO_J]; exact w3⟩, ⟨by rw [jD_J]; exact d1, by rw [jM_J]; exact q7, d3⟩, ⟨by rw [jD_J, jM_J]; exact w2.symm, by rw [jD_J, jO_J]; exact j2, by rw [jM_J, jO_J]; exact w4⟩, q8, by rw [jD_J]; exact k1, by rw [jM_J]; exact q4⟩ (fun w hw => by
      rcases List.mem_append.mp hw with z | z
      · obtain rfl : w = .int x := by simpa using z
        trivial
      · have := hrest w z
        rw [ha] at this
        exact this)
    rw [List.map_append] at this
    exact this)
  rw [List.map_append, List.map_cons, lw_mapi]
  rw [show am_v ρ (.ref 1) = .ref (ρm 0) from congrArg Value.ref h1]
  exact hgo
theorem lw_ld_s (hx : p.tables.exec = Jvm.exec) (hb : c.code = cc) {Ls : Nat} {xs : Nat → Int32} (hX : va_X b Ls xs s H0) (hbl : b < H0.size) (hbA : ¬ A b) (hd : decode cc pc = .ok (.iaload, 1)) (h : ∃ (x : Int32) (r : List Value), st = .int x :: .ref 3 :: r ∧ vp_in x Ls ∧ k (.int (xs x.toNatClampNeg) :: r) J a) : am_SS p l e room_1 s m args below meth c Qw nL (lwRel L b G dT cL A H0) pc 1 st J a k := by
  obtain ⟨x, r, rfl, hin, h⟩ := h
  intro ρ H locs ls hsz hR hst kk
  have hS := hR.2.2.choose_spec.choose_spec.choose_spec.2.2.2.2.2.2.1
  have h3 := hR.2.1
  show W p l e room_1 s m args below meth c H locs a.2.1 a.2.2 Qw (F0 m pc ls (.int x :: .ref (ρ 3) :: r.map (am_v ρ)))
  rw [h3]
  refine va_sld hx hb hX hbl hbA hS hin hd ?_
  exact kk _ J a ρ H locs h (Nat.le_refl _) (fun _ _ => rfl) hR (fun w hw => by
    rcases List.mem_cons.mp hw with rfl | hw
    · trivial
    · exact hst w (List.mem_cons_of_mem _ (List.mem_cons_of_mem _ hw)))
theorem lw_ln_s (hx : p.tables.exec = Jvm.exec) (hb : c.code = cc) {Ls : Nat} {xs : Nat → Int32} (hX : va_X b Ls xs s H0) (hbl : b < H0.size) (hbA : ¬ A b) (hd : decode cc pc = .ok (.arraylength, 1)) (h : ∃ r : List Value, st = .ref 3 :: r ∧ k (.int (nI Ls) :: r) J a) : am_SS p l e room_1 s m args below meth c Qw nL (lwRel L b G dT cL A H0) pc 1 st J a k := by
  obtain ⟨r, rfl, h⟩ := h
  intro ρ H locs ls hsz hR hst kk
  have hS := hR.2.2.choose_spec.choose_spec.choose_spec.2.2.2.2.2.2.1
  have h3 := hR.2.1
  show W p l e room_1 s m args below meth c H locs a.2.1 a.2.2 Qw (F0 m pc ls (.ref (ρ 3) :: r.map (am_v ρ)))
  rw [h3]
  refine va_slen hx hb hX hbl hbA hS hd ?_
  exact kk _ J a ρ H locs h (Nat.le_refl _) (fun _ _ => rfl) hR (fun w hw => by
    rcases List.mem_cons.mp hw with rfl | hw
    · trivial
    · exact hst w (List.mem_cons_of_mem _ hw))
end LWB
