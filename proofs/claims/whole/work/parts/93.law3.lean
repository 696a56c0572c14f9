/-! ===== the law: two worlds side by side, and calls into one of them ===== -/
/-- cells of two worlds are apart -/
def lw_dj (X Y : va_W) : Prop := ∀ (i j : Nat) (a b : Nat × va_E), X[i]? = some a → Y[j]? = some b → a.1 ≠ b.1
theorem lw_dj.symm {X Y : va_W} (h : lw_dj X Y) : lw_dj Y X := fun i j a b h1 h2 e => h j i b a h2 h1 e.symm
section LWA
variable {p : Program} {l : Launch} {e : Env} {R : Room} {s : State} {m : MethodId} {args : Array Value} {below : List Frame} {meth : Method} {c : Code} {Qw : State → Prop} {cc : ByteArray} {nL : Nat} {G : va_G} {dT : Nat → ClassId} {A : Nat → Prop} {H0 : Heap} {sh : Nat → am_Sh} {pc : Nat} {D : am_D} {Ts : List Cond} {own : String}
theorem lw_cont {ρ : Nat → Nat} {N mc ms cells slots : Nat} {H : Heap} {locs : List Loc} {ls : Array Slot} {st0 rest : List Value} {av : Array Value} {k' : Option Value → am_D → Nat → Prop} (hr : va_Run p l e R s m args below meth c H locs cells slots mc ms (F0 m pc ls st0) rest (am_Qc G vwCl dT sh ρ N D H.size k' av) (va_A (am_W sh dT ρ N D) H.size)) (hP : va_P G vwCl (am_W sh dT ρ N D) H) (hD : va_D A (am_W sh dT ρ N D)) (hS : va_S A H0 H locs) (hA : ∀ q, H0.size ≤ q → A q)
    (kk : ∀ (v : Option Value) (ρ' : Nat → Nat) (N' : Nat) (D' : am_D) (H1 : Heap) (locs1 : List Loc), k' v D' N' → N ≤ N' → (∀ n, n < N → ρ' n = ρ n) → am_Rk sh N' D' → (∀ w ∈ v, am_okv N' w) → va_P G vwCl (am_W sh dT ρ' N' D') H1 → va_D A (am_W sh dT ρ' N' D') → va_S A H0 H1 locs1 → (∀ X : va_W, va_P G vwCl X H → lw_dj (am_W sh dT ρ N D) X → va_P G vwCl X H1 ∧ lw_dj (am_W sh dT ρ' N' D') X) → W p l e R s m args below meth c H1 locs1 (cells + mc) (slots + ms) Qw (F0 m (pc + 3) ls (v.toList.map (am_v ρ') ++ rest))) : W p l e R s m args below meth c H locs cells slots Qw (F0 m pc ls st0) := by
  intro T hT X
  obtain ⟨v, st₀, t, T', L, h0, X', hL, e1, e2, ⟨⟨v', ρ', N', D', hv, hk', hN, hag, hRk, hok, hP', hD'⟩, hz, hk⟩, st⟩ := hr T hT X
  have hv : v = v'.map (am_v ρ') := Outcome.returned.inj hv
  subst hv
  rw [h0] at hz hk
  have hF : ∀ q, va_A (am_W sh dT ρ N D) H.size q → A q := by
    rintro q (⟨k, x, hq⟩ | hq)
    · exact hD.2 k (q, x) hq
    · exact hA q (Nat.le_trans hS.1 hq)
  obtain ⟨t2, a1, b1⟩ := kk v' ρ' N' D' T'.heap (locs ++ L) hk' hN hag hRk hok (by rw [e1]; exact hP') (hD'.weaken (fun _ _ _ h => hF _ h))
    ⟨Nat.le_trans hS.1 (by rw [e1]; exact hz), fun q h1 h2 => by rw [e1, hk q (Nat.lt_of_lt_of_le h1 hS.1) (fun z => h2 (hF q z))]; exact hS.2.1 q h1 h2, fun q hq => by
      rcases List.mem_append.mp hq with h | h
      · exact hS.2.2 q h
      · exact hF _ (hL q h)⟩ (fun Y hY hj => by
      have hout : ∀ (j : Nat) (y : Nat × va_E), Y[j]? = some y → ¬ va_A (am_W sh dT ρ N D) H.size y.1 := fun j y hy z => by
        rcases z with ⟨k, x, hq⟩ | hq
        · exact hj k j _ y hq hy rfl
        · exact absurd ((hY j y hy).lt) (Nat.not_lt.mpr hq)
      refine ⟨hY.kept (fun j y hy => by rw [e1]; exact hk y.1 ((hY j y hy).lt) (hout j y hy)), fun i j a b ha hb he => ?_⟩
      exact hout j b hb (by rw [← he]; exact hD'.2 i a ha)) T' rfl X'
  have hto : (v'.map (am_v ρ')).toList = v'.toList.map (am_v ρ') := by cases v' <;> rfl
  rw [hto] at st
  exact ⟨t2, st t2 a1, b1⟩
/-- a virtual call into one world: the receiver is its first cell -/
theorem lw_callV (hx : p.tables.exec = Jvm.exec) (hb : c.code = cc) (hml : c.maxLocals = nL) (hown : s.vm.findClass own = some m.cls) (hts : ∀ w ∈ Ts, w.before args s = true) (hK : va_K G vwCl (am_ty dT) s) (hGl : am_Gl s) (hA : ∀ q, H0.size ≤ q → A q) {y : MethodName} {ws : List Cond} {rm : Room} {mc ms n ci index : Nat} {P : am_P} {C : String} {T : u_T} {Nf : Nat} {bytes : ByteArray} {maxL : Nat} {ret : Option FieldType} {ks : List Nat}
    (hM : am_Ctr l vwCl sh y ws rm mc ms P) (hc : vwCl[ci]? = some (C, T, Nf)) (cw : CallW R s args own C index y bytes maxL ret ws rm mc ms n) (hd : decode cc pc = .ok (.invokevirtual index, 3)) {ρ : Nat → Nat} {N cells slots : Nat} {H : Heap} {locs : List Loc} {ls : Array Slot} {xs : List Int32} {rest : List Value} {k : Option Value → am_D → Nat → Prop} (hsz : ls.size = nL) (h0 : sh 0 = .inl (ci, ks)) (hN : 0 < N) (hn : xs.length = n) (hP : va_P G vwCl (am_W sh dT ρ N D) H) (hD : va_D A (am_W sh dT ρ N D)) (hS : va_S A H0 H locs) (hk : am_Rk sh N D) (h : P (.ref 0 :: xs.map .int) D N k) (hrest : (rest.map fun v => v.category).sum ≤ 8) (hcl : cells + mc ≤ R.cells) (hsl : slots + ms ≤ R.slots)
    (kk : ∀ (v : Option Value) (ρ' : Nat → Nat) (N' : Nat) (D' : am_D) (H1 : Heap) (locs1 : List Loc), k v D' N' → N ≤ N' → (∀ n, n < N → ρ' n = ρ n) → am_Rk sh N' D' → (∀ w ∈ v, am_okv N' w) → va_P G vwCl (am_W sh dT ρ' N' D') H1 → va_D A (am_W sh dT ρ' N' D') → va_S A H0 H1 locs1 → (∀ X : va_W, va_P G vwCl X H → lw_dj (am_W sh dT ρ N D) X → va_P G vwCl X H1 ∧ lw_dj (am_W sh dT ρ' N' D') X) → W p l e R s m args below meth c H1 locs1 (cells + mc) (slots + ms) Qw (F0 m (pc + 3) ls (v.toList.map (am_v ρ') ++ rest))) : W p l e R s m args below meth c H locs cells slots Qw (F0 m pc ls ((xs.map .int).reverse ++ .ref (ρ 0) :: rest)) := by
  have hvo : ∀ v ∈ (.ref 0 :: xs.map .int : List Value), am_okv N v := fun v hv => by
    rcases List.mem_cons.mp hv with rfl | hv
    · exact hN
    · obtain ⟨x, -, rfl⟩ := List.mem_map.mp hv
      trivial
  have he : (am_W sh dT ρ N D)[0]? = some (ρ 0, .inr (ci, ks.mapIdx fun i k => am_v ρ (am_va k (D 0 i)))) := by rw [am_W_at hN, h0]; rfl
  have hmap : (xs.map (Value.int ·)).map (am_v ρ) = xs.map .int := by
    rw [List.map_map]
    rfl
  refine lw_cont (av := (Value.ref (ρ 0) :: xs.map .int).toArray) (rest := rest) ?_ hP hD hS hA kk
  have hMet := hM G dT ρ N D H.size (.ref 0 :: xs.map .int) k hk hvo h
  refine va_runV (As := xs.map .int) (b := ρ 0) ⟨hx, hb, hml, hown, hts⟩ hMet cw ⟨am_blind, va_recv hK hP hc he, fun U hU hW => ⟨?_, by rw [hU], by rw [hU]; exact hP, va_K.moved hW.alike hK, hD.weaken (fun _ _ _ _ => trivial), hGl.warm hW⟩⟩ rfl (by rw [List.length_map]; exact hn) hsz rfl (lv_room hrest) hd ⟨hcl, hsl⟩
  show _ = (List.map (am_v ρ) (.ref 0 :: xs.map .int)).toArray
  rw [List.map_cons, hmap]
  rfl
end LWA
