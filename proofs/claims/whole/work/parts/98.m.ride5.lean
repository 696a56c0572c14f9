/-! ===== the law calls its helper ride ===== -/
theorem lw_k1 {o : Nat} {e0 : va_E} {k : Nat} {q : Nat × va_E} (hk : ([(o, e0)] : va_W)[k]? = some q) : q = (o, e0) := by
  cases k with
  | zero => exact (Option.some.inj hk).symm
  | succ n => cases hk
section LWR
variable {p : Program} {l : Launch} {e : Env} {s : State} {m : MethodId} {args : Array Value} {below : List Frame} {meth : Method} {c : Code} {Qw : State → Prop} {cc : ByteArray} {nL : Nat} {G : va_G} {dT : Nat → ClassId} {cL : ClassId} {A : Nat → Prop} {pc L b : Nat} {J : am_D} {st : List Value} {a : am_A} {k : List Value → am_D → am_A → Prop}
set_option maxHeartbeats 1000000 in
set_option maxRecDepth 20000 in
theorem lw_r_s (hx : p.tables.exec = Jvm.exec) (hb : c.code = cc) (hml : c.maxLocals = nL) (hl : l.stackTraces = false) (hown : s.vm.findClass RL = some m.cls) (hts : ∀ w ∈ wsL_law, w.before args s = true) (hK : va_K G vwCl (am_ty dT) s) (hKl : va_K G vwCl [(cL, .long)] s) (hGl : am_Gl s) (hT : rd_T A s) (hA : ∀ q, s.heap.size ≤ q → A q) (hd : decode cc pc = .ok (.invokestatic 122, 3)) (h : lw_r L st J a k) : am_SS p l e room_1 s m args below meth c Qw nL (lwRel L b G dT cL A s.heap) pc 3 st J a k := by
  obtain ⟨x, w, r, rfl, hr, hmc, hms, hdW, hbad, hgood⟩ := h
  intro ρ H locs ls hsz hR hst kk
  obtain ⟨ha, h3, ρd, ρm, A', h0, h1, hO, ⟨p1, p2, p3⟩, ⟨d1, d2, d3⟩, ⟨j1, j2, j3⟩, hS, k1, k2⟩ := hR
  have hrest : ∀ v ∈ r, am_okv a.1 v := fun v hv => hst v (List.mem_cons_of_mem _ (List.mem_cons_of_mem _ (List.mem_cons_of_mem _ (List.mem_cons_of_mem _ hv))))
  have ho : ρ 2 < H.size := (p3 0 _ rfl).lt
  have hAA : ∀ q, lr_A L dT ρd (21 + 2 * A') (jD J) H.size (ρ 2) q → A q := by
    rintro q ((⟨k9, z, hk9⟩ | hq) | rfl)
    · exact d1.2 k9 (q, z) hk9
    · exact hA q (Nat.le_trans hS.1 hq)
    · exact d3
  obtain ⟨hN0, ⟨sa, tx, t1⟩, ⟨sb, ty, t2⟩, t3, t4⟩ := id hT
  have hrun := vx_runSX (R := room_1) (l := l) (e := e) (below := below) (meth := meth) (H := H) (locs := locs) (cells := a.2.1) (slots := a.2.2) (As := [.ref (ρd 0), .int x, .int w, .ref (ρ 2)]) (rest := r.map (am_v ρ)) (g := F0 m pc ls (.ref (ρ 2) :: .int w :: .int x :: .ref (ρd 0) :: r.map (am_v ρ))) (hh := [(0, 10, 13, 13)]) ⟨hx, hb, hml, hown, hts⟩ (ctL_ride (x := x) (w := w) hl hO hdW G dT cL ρd H.size (ρ 2) (jO J) k1 ho j2)
    (vx_cwSW 4 hts gL_law_L_ride rfl rfl rfl (by decide +kernel) ⟨Nat.le_of_ble_eq_true rfl, Nat.le_of_ble_eq_true rfl⟩)
    ⟨lr_blind, fun U hU hWU => ⟨rfl, by rw [hU], ⟨by rw [hU]; exact p1, by rw [hU]; exact p3⟩, ⟨va_K.moved hWU.alike hK, va_K.moved hWU.alike hKl⟩, d1.weaken (fun _ _ _ _ => trivial), hGl.warm hWU, ⟨hN0.warm hWU, ⟨sa, tx, vk_R.warm hWU t1⟩, ⟨sb, ty, vk_R.warm hWU t2⟩, by rw [hU]; exact (vx_Zq.moved hWU.alike (t3.kept hS.2.1)).narrow hAA, by rw [hU]; exact (vx_Zq.moved hWU.alike (t4.kept hS.2.1)).narrow hAA⟩⟩⟩ rfl rfl hsz rfl (lv_room (by rw [am_cats hrest]; exact hr)) hd ⟨hmc, hms⟩
  intro T hT9 X
  have hst9 : (List.map (am_v ρ) (.ref 2 :: .int w :: .int x :: .ref 0 :: r)) = .ref (ρ 2) :: .int w :: .int x :: .ref (ρd 0) :: r.map (am_v ρ) := by
    rw [List.map_cons, List.map_cons, List.map_cons, List.map_cons, show am_v ρ (.ref 0) = .ref (ρd 0) from congrArg Value.ref h0]
    rfl
  rw [hst9]
  rcases hrun T hT9 X with ⟨v, st₀, t, T', L1, e0, X', hL, e1, e2, ⟨ρ', z, y', hv, hag, ⟨hP1, hP2⟩, hD1, ⟨hz, hk1⟩, hcs⟩, st⟩ | ⟨q, st₀, t, T', L1, E, ce, e0, X', hL, e1, e2, hF, -⟩
  · have hv : v = some (.int z) := Outcome.returned.inj hv
    subst hv
    rw [e0] at hz hk1
    have hout : ∀ (Y : va_W), va_P G vwCl Y H → lw_dj (am_W (sd_sh L) dT ρd (21 + 2 * A') (jD J)) Y → lw_dj Y [(ρ 2, lw_o cL (jO J))] → va_P G vwCl Y T'.heap ∧ lw_dj (am_W (sd_sh L) dT ρ' (21 + 2 * A') (jD J)) Y := fun Y hY hj hj2 => by
      have hout : ∀ (j : Nat) (y : Nat × va_E), Y[j]? = some y → ¬ va_A (am_W (sd_sh L) dT ρd (21 + 2 * A') (jD J)) H.size y.1 := fun j y hy z => by
        rcases z with ⟨k, x, hq⟩ | hq
        · exact hj k j _ y hq hy rfl
        · exact absurd ((hY j y hy).lt) (Nat.not_lt.mpr hq)
      refine ⟨hY.kept (fun j y hy => by
        rw [e1]
        refine hk1 y.1 ((hY j y hy).lt) (fun z => ?_)
        rcases z with z | z
        · exact hout j y hy z
        · exact hj2 j 0 y _ hy rfl z), fun i j a b ha hb he => hout j b hb (by rw [← he]; exact hD1.2 i a ha)⟩
    obtain ⟨w1, w2⟩ := hout _ p2 j1 j3
    have w4 : lw_dj (am_W (sd_sh L) dT ρ' (21 + 2 * A') (jD J)) [(ρ 2, lw_o cL y')] := fun i j a b ha hb he => by
      rw [lw_k1 hb] at he
      rcases hD1.2 i a ha with ⟨k9, z9, hq⟩ | hq
      · exact j2 k9 0 _ _ hq rfl he
      · rw [he] at hq
        exact absurd ho (Nat.not_lt.mpr hq)
    have w5 : lw_dj (am_W sm_sh dT ρm 18 (jM J)) [(ρ 2, lw_o cL y')] := fun i j a b ha hb he => by
      rw [lw_k1 hb] at he
      exact j3 i 0 a _ ha rfl he
    have hS1 : va_S A s.heap T'.heap (locs ++ L1) := ⟨Nat.le_trans hS.1 (by rw [e1]; exact hz), fun q h1 h2 => by rw [e1, hk1 q (Nat.lt_of_lt_of_le h1 hS.1) (fun z => h2 (hAA q z))]; exact hS.2.1 q h1 h2, fun q hq => by
      rcases List.mem_append.mp hq with h | h
      · exact hS.2.2 q h
      · exact hAA _ (hL q h)⟩
    have hgo := kk (.int z :: r) (jJ (jD J) (jM J) y') (4, a.2.1 + 1, a.2.2 + 6) ρ T'.heap (locs ++ L1) (by
        rcases hcs with ⟨hq, rfl, rfl⟩ | ⟨hq, rfl, rfl⟩
        · exact hbad hq
        · exact hgood hq) (by rw [ha]; exact Nat.le_refl _) (fun _ _ => rfl)
      ⟨rfl, h3, ρ', ρm, A', h0.trans (hag 0 (by omega)).symm, h1, by rw [jD_J]; exact hO, ⟨by rw [jD_J, e1]; exact hP1, by rw [jM_J]; exact w1, by rw [jO_J, e1]; exact hP2⟩, ⟨by rw [jD_J]; exact hD1.weaken (fun _ _ _ h => hAA _ (Or.inl h)), by rw [jM_J]; exact d2, d3⟩, ⟨by rw [jD_J, jM_J]; exact w2, by rw [jD_J, jO_J]; exact w4, by rw [jM_J, jO_J]; exact w5⟩, hS1, by rw [jD_J]; exact k1, by rw [jM_J]; exact k2⟩ (fun v hv => by
        rcases List.mem_cons.mp hv with rfl | hv
        · trivial
        · have := hrest v hv
          rw [ha] at this
          exact this)
    obtain ⟨t2, a1, b1⟩ := hgo T' rfl X'
    exact ⟨t2, st t2 a1, b1⟩
  · exact hF.elim
end LWR
