/-! ===== the law from its loop on ===== -/
section LWF
variable {p : Program} {l : Launch} {e : Env} {s : State} {m : MethodId} {below : List Frame} {meth : Method} {c : Code} {G : va_G} {dT : Nat → ClassId} {cL : ClassId} {b L : Nat}
theorem lw_cmp0 (x : Int64) : lg_cmp x x = 0 := by
  unfold lg_cmp
  rw [if_neg (by simp), if_pos rfl]
theorem lw_38 {Qw : State → Prop} {A : Nat → Prop} {args : Array Value} (hx : p.tables.exec = Jvm.exec) (hb : c.code = code) (hKl : va_K G vwCl [(cL, .long)] s) (i : Nat) (J : am_D) (cl sl : Nat) (k y : Int32) (hk : k = 0 → jO J = y) (h : am_KW p l e room_1 s m args below meth c Qw 7 (lwRel L b G dT cL A s.heap) 1155 [.ref 3, .ref 0, .ref 1, .ref 2, .int (nI i), .int k, .int y] [] J (4, cl, sl)) : am_KW p l e room_1 s m args below meth c Qw 7 (lwRel L b G dT cL A s.heap) 1138 [.ref 3, .ref 0, .ref 1, .ref 2, .int (nI i), .int k, .int y] [] J (4, cl, sl) := by
  intro ρ H locs ls hR hLL hst
  have hgo := h ρ H locs ls hR hLL hst
  have g5 : ls[5]? = some (.val (.int k)) := (hLL.get (j := 5) (v := .int k) rfl (fun q => by cases q)).1
  have g6 : ls[6]? = some (.val (.int y)) := (hLL.get (j := 6) (v := .int y) rfl (fun q => by cases q)).1
  have g3 : ls[3]? = some (.val (.ref (ρ 2))) := (hLL.get (j := 3) (v := .ref 2) rfl (fun q => by cases q)).1
  obtain ⟨ha, h3, ρd, ρm, A', h0, h1, hO, ⟨p1, p2, p3⟩, -⟩ := id hR
  refine lv_iload hx hb (by decide +kernel) g5 ?_
  refine lv_if_ne hx hb (off := 15) (tgt := 1155) (by decide +kernel) (by decide) (fun _ => hgo) (fun hk0 => ?_)
  refine lv_aload_n hx hb (k := 3) (by decide +kernel) rfl g3 ?_
  refine lv_iconst hx hb (n := 0) (by decide +kernel) rfl ?_
  refine va_lald hx hb hKl p3 0 0 rfl rfl (vp_in_nI (n := 0) (N := 1) (by decide) (by decide)) (by decide +kernel) ?_
  refine lv_iload hx hb (by decide +kernel) g6 ?_
  refine lv_i2l hx hb (by decide +kernel) rfl ?_
  refine W.lcmp hx hb (by decide +kernel) ?_
  refine lv_if_eq hx hb (off := 5) (tgt := 1155) (by decide +kernel) (by decide) (fun _ => hgo) (fun hn => ?_)
  refine absurd ?_ hn
  rw [hk hk0]
  exact lw_cmp0 _
theorem lw_RS {A : Nat → Prop} (hx : p.tables.exec = Jvm.exec) (hb : c.code = code) (hr : meth.sig.returnType = ret) (hlocks : meth.locks = false) (hA : ∀ q, A q → s.heap.size ≤ q) : am_RS p l e room_1 s m #[Value.ref b] below meth c (lw_Z below #[Value.ref b] s) code (lwRel L b G dT cL A s.heap) (fun v _ a => v = some (.int 1) ∧ a.2.1 ≤ 601024 ∧ a.2.2 ≤ 7293000) := by
  intro i v pc J a ρ H locs ls hd hi hq hR hok
  obtain ⟨rfl, h1, h2⟩ := hq
  have hS := hR.2.2.choose_spec.choose_spec.choose_spec.2.2.2.2.2.2.1
  rcases hi with ⟨rfl, x, hx9⟩ | ⟨rfl, w, hw, hz⟩ | ⟨rfl, hz⟩
  · exact W.widen h1 h2 (va_forget (fun q hq => hA _ (hS.2.2 q hq)) (lw_ret hx hb hr hlocks hd))
  · cases hw
    rcases hz with ⟨n, q⟩ | q <;> cases q
  · cases hz
set_option maxRecDepth 20000 in
theorem lw_loop (hx : p.tables.exec = Jvm.exec) (hb : c.code = code) (hr : meth.sig.returnType = ret) (hml : c.maxLocals = 7) (hl : l.stackTraces = false) (hown : s.vm.findClass RL = some m.cls) (hlocks : meth.locks = false) (hts : ∀ w ∈ wsL_law, w.before #[Value.ref b] s = true) (hK : va_K G vwCl (am_ty dT) s) (hKl : va_K G vwCl [(cL, .long)] s) (hGl : am_Gl s) (hT : rd_T (fun q => s.heap.size ≤ q) s) {Ls : Nat} {xs : Nat → Int32} (hLs : Ls ≤ 2561) (hX : va_X b Ls xs s s.heap) (hbl : b < s.heap.size) {A cl sl : Nat} {J : am_D} {v5 v6 : Value} (hRel : Rel L A (jD J) (jM J) none) (hB : vB (jM J) = 0) (hcl : cl ≤ 40) (hsl : sl ≤ 14000) :
    am_KW p l e room_1 s m #[Value.ref b] below meth c (lw_Z below #[Value.ref b] s) 7 (lwRel L b G dT cL (fun q => s.heap.size ≤ q) s.heap) 33 [.ref 3, .ref 0, .ref 1, .ref 2, .int (nI 1), v5, v6] [] J (4, cl, sl) := by
  have hC := am_closed hx hb (lwRel.inj (L := L) (b := b) (G := G) (dT := dT) (cL := cL) (A := fun q => s.heap.size ≤ q) (H0 := s.heap) (Nat.not_le.mpr hbl)) (lwE_s (p := p) (l := l) (e := e) (below := below) (meth := meth) (Qw := lw_Z below #[Value.ref b] s) (L := L) hx hb hml hl hown hts hK hKl hGl hT (fun _ h => h) hX hbl (Nat.not_le.mpr hbl) (am_U bL)) (lw_RS hx hb hr hlocks (fun _ h => h)) (bs := bL) (fun _ h => h) kL lL
  exact law_loop hC (fun J a h1 h2 => ⟨rfl, h1, h2⟩) (fun i J' cl' sl' k y hk h => lw_38 hx hb hKl i J' cl' sl' k y hk h) hLs 513 1 0 A cl sl J v5 v6 (by omega) (by decide) rfl hRel (by omega) (by omega) (by omega)
end LWF
