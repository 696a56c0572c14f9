/-! ===== the law's helper cell ===== -/
def sc0 (Ls : Nat) (xs : Nat → Int32) : Int32 := if 0 < Ls then xs 0 else 0
def sc_P (b Ls : Nat) (xs : Nat → Int32) : Array Value → State → Prop := va_Pc [.ref b, .int 0] (fun U => va_X b Ls xs U U.heap ∧ b < U.heap.size)
theorem sc_blind {b Ls : Nat} {xs : Nat → Int32} : FrameBlind (sc_P b Ls xs) := fun a U g mk q => by
  obtain ⟨q0, q1, q2⟩ := q
  exact ⟨q0, va_X.moved (u := U) (U := U.calling g mk a) (Vm.Alike.refl U.vm) q1, q2⟩
set_option maxRecDepth 20000 in
theorem ctL_cell (l : Launch) {b Ls : Nat} {xs : Nat → Int32} (hLs : Ls ≤ 2561) : Met l yL_cell wsL_cell ({ frames := 0, cells := 0, slots := 0, locals := 0 } : Room) (sc_P b Ls xs) (fun _ st oc t => oc = .returned (some (.int (sc0 Ls xs))) ∧ t.heap = st.heap) 0 0 (fun _ => False) := by
  refine Met.ofW (cc := cL_cell) (maxL := 2) (ret := some .int) (by decide +kernel) rfl ?_
  intro p e s m args below meth c s₁ B hml hv
  obtain ⟨rfl, hX, hbl⟩ := hv
  have hx := B.exec
  have hb := B.bytes
  have hr := B.returns
  have hlocks := B.notSynchronized
  have hl2 := lv_entry ([.ref b, .int 0] : List Value) (n := 2) (Nat.le_of_ble_eq_true rfl)
  rw [lg_entry_eq]
  generalize (lg_sl [Value.ref b, Value.int 0] ++ List.replicate (2 - (lg_sl [Value.ref b, Value.int 0]).length) Slot.unset).toArray = ls at hl2
  have g0 : ls[0]? = some (.val (.ref b)) := lv_at hl2 0 rfl
  have g1 : ls[1]? = some (.val (.int 0)) := lv_at hl2 1 rfl
  have hS : va_S (fun _ => False) s.heap s.heap [] := va_S.rf
  have fin : ∀ (y : Int32), sc0 Ls xs = y → W p l e (headSpec wsL_cell ({ frames := 0, cells := 0, slots := 0, locals := 0 } : Room)).room s m #[.ref b, .int 0] below meth c s.heap [] 0 0 (MQ below (fun _ st oc t => oc = .returned (some (.int (sc0 Ls xs))) ∧ t.heap = st.heap) #[.ref b, .int 0] s 0 0 (fun _ => False)) (F0 m 13 ls [.int y]) := fun y hy => by
    refine W.iret hx hb hr (fun t ht _ => ⟨by rw [hy], ht⟩) (fun q hq => nomatch hq) (by decide +kernel) hlocks
  refine lv_iload_n hx hb (k := 1) (by decide +kernel) rfl g1 ?_
  refine lv_aload_n hx hb (k := 0) (by decide +kernel) rfl g0 ?_
  refine va_slen hx hb hX hbl (fun h => h) hS (by decide +kernel) ?_
  refine lv_icmp_ge hx hb (off := 9) (tgt := 12) (by decide +kernel) (by decide) (fun h => ?_) (fun h => ?_)
  · refine lv_iconst hx hb (n := 0) (by decide +kernel) rfl ?_
    refine fin 0 ?_
    unfold sc0
    rw [if_neg]
    intro h0
    exact absurd ((nI_lti (a := 0) (b := Ls) (by omega) (by omega)).mpr h0) (Int32.not_lt.mpr h)
  · refine lv_aload_n hx hb (k := 0) (by decide +kernel) rfl g0 ?_
    refine lv_iload_n hx hb (k := 1) (by decide +kernel) rfl g1 ?_
    refine va_sld hx hb hX hbl (fun h => h) hS ?_ (by decide +kernel) ?_
    · exact vp_in_nI (n := 0) (Nat.pos_of_ne_zero (fun h0 => h (by rw [h0]; decide))) (by omega)
    · refine lv_goto hx hb (off := 4) (tgt := 13) (by decide +kernel) (by decide) ?_
      refine fin _ ?_
      unfold sc0
      rw [if_pos (Nat.pos_of_ne_zero (fun h0 => h (by rw [h0]; decide)))]
      rfl
