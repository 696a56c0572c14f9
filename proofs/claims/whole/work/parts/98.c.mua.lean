/-! ===== new int[4][n] ===== -/
theorem va_D_add {A : Nat → Prop} {ws : va_W} {b : Nat} {e : va_E} (hD : va_D A ws) (hlt : ∀ (k : Nat) (q : Nat × va_E), ws[k]? = some q → q.1 < b) (hb : A b) : va_D A (ws ++ [(b, e)]) ∧ ∀ (k : Nat) (q : Nat × va_E), (ws ++ [(b, e)])[k]? = some q → q.1 < b + 1 := by
  have key : ∀ (k : Nat) (q : Nat × va_E), (ws ++ [(b, e)])[k]? = some q → (k < ws.length ∧ ws[k]? = some q) ∨ (k = ws.length ∧ q = (b, e)) := fun k q hk => by
    by_cases h : k < ws.length
    · rw [List.getElem?_append_left h] at hk
      exact Or.inl ⟨h, hk⟩
    · rw [List.getElem?_append_right (by omega)] at hk
      have h0 : k - ws.length < 1 := (List.getElem?_eq_some_iff.mp hk).1
      rw [show k - ws.length = 0 by omega] at hk
      exact Or.inr ⟨by omega, (Option.some.inj hk).symm⟩
  refine ⟨⟨fun i j x y hi hj hxy => ?_, fun k q hk => ?_⟩, fun k q hk => ?_⟩
  · rcases key i x hi with ⟨h1, h2⟩ | ⟨h1, rfl⟩ <;> rcases key j y hj with ⟨g1, g2⟩ | ⟨g1, rfl⟩
    · exact hD.1 i j x y h2 g2 hxy
    · exact absurd hxy (Nat.ne_of_lt (hlt i x h2))
    · exact absurd hxy.symm (Nat.ne_of_lt (hlt j y g2))
    · omega
  · rcases key k q hk with ⟨h1, h2⟩ | ⟨h1, rfl⟩
    · exact hD.2 k q h2
    · exact hb
  · rcases key k q hk with ⟨h1, h2⟩ | ⟨h1, rfl⟩
    · exact Nat.lt_succ_of_lt (hlt k q h2)
    · exact Nat.lt_succ_self _
theorem va_P_one {G : va_G} {cl : List vw_C} {q : Nat} {cA : ClassId} {z : vp_A} {H : Heap} (h : H[q]? = some (vp_cell cA z)) : va_P G cl [(q, .inl (cA, z))] H := fun k x hx => by
  have h0 : k < 1 := (List.getElem?_eq_some_iff.mp hx).1
  rw [show k = 0 by omega] at hx
  cases hx
  exact h
theorem vr_outer (c : ClassId) (N h0 : Nat) : ∀ i : Nat, Jvm.Free.Multi.outerC c N h0 i = arrV c N (fun j => va_rf (if j < i then some (h0 + 1 + j) else none))
  | 0 => by
    show ({ cls := c, slots := Array.replicate N .null, vm := .none } : Cell) = _
    rw [arrV_new]
    refine congrArg (arrV c N) (funext fun j => ?_)
    simp [va_rf]
  | i + 1 => by
    show (Jvm.Free.Multi.outerC c N h0 i).setSlot i (.ref (h0 + 1 + i)) = _
    rw [vr_outer c N h0 i, arrV_store]
    refine congrArg (arrV c N) (funext fun j => ?_)
    by_cases e : j = i
    · subst e
      simp [updV, va_rf]
    · by_cases h : j < i
      · simp [updV, e, h, Nat.lt_succ_of_lt h]
      · simp [updV, e, h, show ¬ j < i + 1 by omega]
section MUA
variable {p : Program} {l : Launch} {e : Env} {R : Room} {s : State} {m : MethodId} {args : Array Value} {below : List Frame} {meth : Method} {c : Code} {Qw : State → Prop} {cc : ByteArray} {nL : Nat} {G : va_G} {cl : List vw_C} {dT : Nat → ClassId} {A : Nat → Prop} {H0 : Heap} {sh : Nat → am_Sh} {pc : Nat} {st : List Value} {D : am_D} {a : am_A} {k : List Value → am_D → am_A → Prop} {own : String}
set_option maxHeartbeats 1000000 in
theorem am_mua_s (hx : p.tables.exec = Jvm.exec) (hb : c.code = cc) (hown : s.vm.findClass own = some m.cls) {x RC RS : Nat} (w1 : (Cond.classLink own x "[[I").before args s = true) (w2 : (Cond.arrayOver (.array .int)).before #[] s = true) (w3 : (Cond.arrayClass .int).before args s = true) (hK : va_K G cl (am_ty dT) s) (hA : ∀ q, H0.size ≤ q → A q) (hRC : RC = R.cells) (hRS : RS = R.slots) (hd : decode cc pc = .ok (.multianewarray x 2, 4)) (h : am_mua sh RC RS st D a k) : am_SS p l e R s m args below meth c Qw nL (am_Rel G cl dT A H0 sh) pc 4 st D a k := by
  obtain ⟨L, r, rfl, hL, hs0, hs1, ha0, ha1, h1, h2, h3⟩ := h
  subst hRC; subst hRS
  intro ρ H locs ls hsz hR hst kk
  obtain ⟨hP, hD, hS, hk⟩ := hR
  have hc4 : (4 : Int32).toNatClampNeg = 4 := by decide
  have hcL : (nI L).toNatClampNeg = L := nI_clamp (by omega)
  intro T hT X
  obtain ⟨vm₁, cA, comp, -, fA, fC, hO, -, X', step⟩ := X.multianewarray2F hx (ty := .int) hown w1 w2 w3 (g := F0 m pc ls (.int (nI L) :: .int 4 :: r.map (am_v ρ))) rfl (by rw [hb]; exact hd) rfl (by decide) (nI_pos (by omega)) (by decide) (by rw [hcL]; show L * 4 ≤ _; omega) (by rw [hcL]; omega) rfl rfl (by rw [hc4]; omega) (by rw [hc4, hcL]; omega)
  rw [hc4, hcL] at X' step
  have ecA : cA = dT 3 := by
    have r2 : s.vm.findClass "[[I" = some (dT 3) := (hK.2 3 _ rfl).2
    exact Option.some.inj (fA.symm.trans r2)
  have ecy : comp = dT 0 := by
    have r2 : s.vm.findClass "[I" = some (dT 0) := (hK.2 0 _ rfl).2
    exact Option.some.inj (fC.symm.trans r2)
  subst ecA ecy
  have hTh : (T.setVm vm₁).heap = H := hT
  obtain ⟨f1, f2, -, -⟩ := Jvm.Free.Multi.fill_facts (T.setVm vm₁) (dT 3) (dT 0) 4 L (defaultValue .int) 4
  have hold : ∀ x : Nat, x < H.size → (Jvm.Free.Multi.fill (T.setVm vm₁) (dT 3) (dT 0) 4 L (defaultValue .int) 4).heap[x]? = H[x]? := fun x hx => by
    have := Jvm.Free.Multi.fill_old (T.setVm vm₁) (dT 3) (dT 0) 4 L (defaultValue .int) (a := x) (by rw [hTh]; exact hx) 4
    rw [hTh] at this
    exact this
  have hrow : ∀ j : Nat, j < 4 → (Jvm.Free.Multi.fill (T.setVm vm₁) (dT 3) (dT 0) 4 L (defaultValue .int) 4).heap[H.size + 1 + j]? = some (vp_cell (dT 0) (L, .inl fun _ => 0)) := fun j hj => by
    have := Jvm.Free.Multi.fill_inner (T.setVm vm₁) (dT 3) (dT 0) 4 L (defaultValue .int) 4 j hj
    rw [hTh] at this
    rw [this]
    show some ({ cls := dT 0, slots := Array.replicate L (.int 0), vm := .none } : Cell) = _
    rw [arrV_new]
    rfl
  rw [hTh, vr_outer] at f2
  rw [hTh] at f1
  generalize hF : Jvm.Free.Multi.fill (T.setVm vm₁) (dT 3) (dT 0) 4 L (defaultValue .int) 4 = F at *
  have hTs : T.heap.size = H.size := by rw [hT]
  rw [hTs] at step
  -- the new cells, one behind another
  obtain ⟨z0, z1, z2, z3⟩ : sh (a.1 + 1) = .inr (0, L) ∧ sh (a.1 + 2) = .inr (0, L) ∧ sh (a.1 + 3) = .inr (0, L) ∧ sh (a.1 + 4) = .inr (0, L) := ⟨hs1 0 (by omega), hs1 1 (by omega), hs1 2 (by omega), hs1 3 (by omega)⟩
  have no : ∀ n, (sh n = .inr (3, 4) ∨ sh n = .inr (0, L)) → ∀ q' : Nat × List Nat, sh n = .inl q' → (q'.2.all fun k => decide (k ≤ 2)) = true := fun n hn q' hq' => by
    rcases hn with hn | hn <;> rw [hn] at hq' <;> cases hq'
  have k1 := hk.z (no _ (Or.inl hs0))
  have k2 := k1.z (no _ (Or.inr z0))
  have k3 := k2.z (no _ (Or.inr z1))
  have k4 := k3.z (no _ (Or.inr z2))
  have k5 := k4.z (no _ (Or.inr z3))
  have p1 := am_W_push (dT := dT) (ρ := ρ) (q := H.size) (e := .inl (dT 3, 4, .inr (.inr (.inr (.inr fun _ => none))))) hk (by rw [hs0]; rfl)
  have p2 := am_W_push (dT := dT) (ρ := va_up ρ a.1 H.size) (q := H.size + 1) (e := .inl (dT 0, L, .inl fun _ => 0)) k1 (by rw [z0]; rfl)
  have p3 := am_W_push (dT := dT) (ρ := va_up (va_up ρ a.1 H.size) (a.1 + 1) (H.size + 1)) (q := H.size + 2) (e := .inl (dT 0, L, .inl fun _ => 0)) k2 (by rw [z1]; rfl)
  have p4 := am_W_push (dT := dT) (ρ := va_up (va_up (va_up ρ a.1 H.size) (a.1 + 1) (H.size + 1)) (a.1 + 2) (H.size + 2)) (q := H.size + 3) (e := .inl (dT 0, L, .inl fun _ => 0)) k3 (by rw [z2]; rfl)
  have p5 := am_W_push (dT := dT) (ρ := va_up (va_up (va_up (va_up ρ a.1 H.size) (a.1 + 1) (H.size + 1)) (a.1 + 2) (H.size + 2)) (a.1 + 3) (H.size + 3)) (q := H.size + 4) (e := .inl (dT 0, L, .inl fun _ => 0)) k4 (by rw [z3]; rfl)
  generalize hr1 : va_up ρ a.1 H.size = ρ1 at *
  generalize hr2 : va_up ρ1 (a.1 + 1) (H.size + 1) = ρ2 at *
  generalize hr3 : va_up ρ2 (a.1 + 2) (H.size + 2) = ρ3 at *
  generalize hr4 : va_up ρ3 (a.1 + 3) (H.size + 3) = ρ4 at *
  generalize hr5 : va_up ρ4 (a.1 + 4) (H.size + 4) = ρ5 at *
  have u5 : ∀ n, n ≠ a.1 + 4 → ρ5 n = ρ4 n := fun n hn => by rw [← hr5]; exact va_up_ne _ _ hn
  have u4 : ∀ n, n ≠ a.1 + 3 → ρ4 n = ρ3 n := fun n hn => by rw [← hr4]; exact va_up_ne _ _ hn
  have u3 : ∀ n, n ≠ a.1 + 2 → ρ3 n = ρ2 n := fun n hn => by rw [← hr3]; exact va_up_ne _ _ hn
  have u2 : ∀ n, n ≠ a.1 + 1 → ρ2 n = ρ1 n := fun n hn => by rw [← hr2]; exact va_up_ne _ _ hn
  have u1 : ∀ n, n ≠ a.1 → ρ1 n = ρ n := fun n hn => by rw [← hr1]; exact va_up_ne _ _ hn
  have hag : ∀ n, n < a.1 → ρ5 n = ρ n := fun n hn => by rw [u5 n (by omega), u4 n (by omega), u3 n (by omega), u2 n (by omega), u1 n (by omega)]
  have e0 : ρ5 a.1 = H.size := by rw [u5 _ (by omega), u4 _ (by omega), u3 _ (by omega), u2 _ (by omega), ← hr1]; exact va_up_self _ _ _
  have e1 : ρ5 (a.1 + 1) = H.size + 1 := by rw [u5 _ (by omega), u4 _ (by omega), u3 _ (by omega), ← hr2]; exact va_up_self _ _ _
  have e2 : ρ5 (a.1 + 2) = H.size + 2 := by rw [u5 _ (by omega), u4 _ (by omega), ← hr3]; exact va_up_self _ _ _
  have e3 : ρ5 (a.1 + 3) = H.size + 3 := by rw [u5 _ (by omega), ← hr4]; exact va_up_self _ _ _
  have e4 : ρ5 (a.1 + 4) = H.size + 4 := by rw [← hr5]; exact va_up_self _ _ _
  have hlen : (am_W sh dT ρ a.1 D).length = a.1 := by simp [am_W]
  have hz5 : ∀ n, n ≠ a.1 → dMua D a.1 n = am_z (am_z (am_z (am_z (am_z D a.1) (a.1 + 1)) (a.1 + 2)) (a.1 + 3)) (a.1 + 4) n := fun n hn => by
    funext j
    unfold dMua
    rw [if_neg hn]
    by_cases h4 : n = a.1 + 4
    · rw [if_pos (by omega), h4]
      exact (if_pos rfl).symm
    · rw [am_z_ne h4]
      by_cases h3 : n = a.1 + 3
      · rw [if_pos (by omega), h3]
        exact (if_pos rfl).symm
      · rw [am_z_ne h3]
        by_cases h2 : n = a.1 + 2
        · rw [if_pos (by omega), h2]
          exact (if_pos rfl).symm
        · rw [am_z_ne h2]
          by_cases h1 : n = a.1 + 1
          · rw [if_pos (by omega), h1]
            exact (if_pos rfl).symm
          · rw [am_z_ne h1, am_z_ne hn, if_neg (by omega)]
  have hset : (((((am_W sh dT ρ a.1 D ++ [(H.size, .inl (dT 3, 4, .inr (.inr (.inr (.inr (fun i => if i < 4 then some (H.size + 1 + i) else none))))))]) ++ [(H.size + 1, .inl (dT 0, L, .inl fun _ => 0))]) ++ [(H.size + 2, .inl (dT 0, L, .inl fun _ => 0))]) ++ [(H.size + 3, .inl (dT 0, L, .inl fun _ => 0))]) ++ [(H.size + 4, .inl (dT 0, L, .inl fun _ => 0))] : va_W) = am_W sh dT ρ5 (a.1 + 5) (dMua D a.1) := by
    rw [← am_W_set (ρ := ρ5) (N := a.1 + 5) (D := am_z (am_z (am_z (am_z (am_z D a.1) (a.1 + 1)) (a.1 + 2)) (a.1 + 3)) (a.1 + 4)) (n := a.1) (e := .inl (dT 3, 4, .inr (.inr (.inr (.inr (fun i => if i < 4 then some (H.size + 1 + i) else none)))))) (by omega) ?_ ?_, ← p5, ← p4, ← p3, ← p2, ← p1, e0]
    · simp [List.set_append, hlen]
    · rw [hs0]
      show (Sum.inl (dT 3, 4, Sum.inr (Sum.inr (Sum.inr (Sum.inr (fun i => if i < 4 then some (H.size + 1 + i) else none))))) : va_E) = Sum.inl (dT 3, 4, Sum.inr (Sum.inr (Sum.inr (Sum.inr fun j => (am_o (am_rf (dMua D a.1 a.1 j))).map ρ5))))
      refine congrArg (fun f => (Sum.inl (dT 3, 4, Sum.inr (Sum.inr (Sum.inr (Sum.inr f)))) : va_E)) (funext fun j => ?_)
      by_cases hj : j < 4
      · have hm : dMua D a.1 a.1 j = nI (a.1 + 1 + j) := by
          unfold dMua
          rw [if_pos rfl, if_pos hj]
        rw [if_pos hj, hm, am_rf_nI (by omega) (by omega)]
        show _ = some (ρ5 (a.1 + 1 + j))
        rcases (show j = 0 ∨ j = 1 ∨ j = 2 ∨ j = 3 by omega) with rfl | rfl | rfl | rfl
        · exact congrArg some e1.symm
        · exact congrArg some e2.symm
        · exact congrArg some e3.symm
        · exact congrArg some e4.symm
      · have hm : dMua D a.1 a.1 j = 0 := by
          unfold dMua
          rw [if_pos rfl, if_neg hj]
        rw [if_neg hj, hm]
        rfl
    · exact hz5
  have hP' : va_P G cl (am_W sh dT ρ5 (a.1 + 5) (dMua D a.1)) F.heap := by
    rw [← hset]
    refine (((((hP.kept (fun k9 x hx => hold x.1 ((hP k9 x hx).lt))).app (va_P_one ?_)).app (va_P_one (hrow 0 (by omega)))).app (va_P_one (hrow 1 (by omega)))).app (va_P_one (hrow 2 (by omega)))).app (va_P_one (hrow 3 (by omega)))
    rw [f2, vp_cell_q]
  have hD' : va_D A (am_W sh dT ρ5 (a.1 + 5) (dMua D a.1)) := by
    rw [← hset]
    have hs := hS.1
    obtain ⟨g1, b1⟩ := va_D_add (e := .inl (dT 3, 4, .inr (.inr (.inr (.inr (fun i => if i < 4 then some (H.size + 1 + i) else none)))))) hD (fun k9 q hq => (hP k9 q hq).lt) (hA _ hs)
    obtain ⟨g2, b2⟩ := va_D_add (e := .inl (dT 0, L, .inl fun _ => 0)) g1 b1 (hA _ (by omega))
    obtain ⟨g3, b3⟩ := va_D_add (e := .inl (dT 0, L, .inl fun _ => 0)) g2 b2 (hA _ (by omega))
    obtain ⟨g4, b4⟩ := va_D_add (e := .inl (dT 0, L, .inl fun _ => 0)) g3 b3 (hA _ (by omega))
    exact (va_D_add (e := .inl (dT 0, L, .inl fun _ => 0)) g4 b4 (hA _ (by omega))).1
  have hk' : am_Rk sh (a.1 + 5) (dMua D a.1) := by
    refine ⟨fun n q i k hn hq hi => ?_, fun n q j hn hq h2 => ?_⟩
    · have hne : n ≠ a.1 := fun z => by rw [z, hs0] at hq; cases hq
      rw [hz5 n hne]
      exact k5.1 n q i k hn hq hi
    · by_cases hne : n = a.1
      · subst hne
        by_cases hj : j < 4
        · have hm : dMua D a.1 a.1 j = nI (a.1 + 1 + j) := by
            unfold dMua
            rw [if_pos rfl, if_pos hj]
          rw [hm]
          exact am_okv_rf (by omega) (by omega)
        · have hm : dMua D a.1 a.1 j = 0 := by
            unfold dMua
            rw [if_pos rfl, if_neg hj]
          rw [hm]
          trivial
      · rw [hz5 n hne]
        exact k5.2 n q j hn hq h2
  have hst' := fun v (hv : v ∈ r) => hst v (List.mem_cons_of_mem _ (List.mem_cons_of_mem _ hv))
  have hfin := kk (.ref a.1 :: r) (dMua D a.1) (a.1 + 5, a.2.1 + 5, a.2.2 + (4 + 4 * L)) ρ5 F.heap locs h3 (by show a.1 ≤ a.1 + 5; omega) hag ⟨hP', hD', ⟨by rw [f1]; have := hS.1; omega, fun x h1 h2 => (hold x (Nat.lt_of_lt_of_le h1 hS.1)).trans (hS.2.1 x h1 h2), hS.2.2⟩, hk'⟩ (List.forall_mem_cons.mpr ⟨show a.1 < a.1 + 5 by omega, fun v hv => am_okv_mono (show a.1 ≤ a.1 + 5 by omega) (hst' v hv)⟩)
  rw [List.map_cons, am_v_map hag hst'] at hfin
  rw [show am_v ρ5 (.ref a.1) = .ref H.size from congrArg Value.ref e0] at hfin
  obtain ⟨t, a1, b1⟩ := hfin F rfl (by rw [show a.2.1 + 5 = a.2.1 + 1 + 4 by omega, show a.2.2 + (4 + 4 * L) = a.2.2 + 4 + 4 * L by omega]; exact X')
  exact ⟨t, step t a1, b1⟩
end MUA
