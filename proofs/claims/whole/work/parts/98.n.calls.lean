/-! ===== the law's calls are sound ===== -/
section LWE
variable {p : Program} {l : Launch} {e : Env} {s : State} {m : MethodId} {args : Array Value} {below : List Frame} {meth : Method} {c : Code} {Qw : State → Prop} {cc : ByteArray} {nL : Nat} {G : va_G} {dT : Nat → ClassId} {cL : ClassId} {A : Nat → Prop} {L b : Nat}
set_option maxHeartbeats 4000000 in
set_option maxRecDepth 20000 in
theorem lwE_s (hx : p.tables.exec = Jvm.exec) (hb : c.code = cc) (hml : c.maxLocals = nL) (hl : l.stackTraces = false) (hown : s.vm.findClass RL = some m.cls) (hts : ∀ w ∈ wsL_law, w.before args s = true) (hK : va_K G vwCl (am_ty dT) s) (hKl : va_K G vwCl [(cL, .long)] s) (hGl : am_Gl s) (hT : rd_T A s) (hA : ∀ q, s.heap.size ≤ q → A q) {Ls : Nat} {xs : Nat → Int32} (hX : va_X b Ls xs s s.heap) (hbl : b < s.heap.size) (hbA : ¬ A b) (U : Instr → Prop) : am_ES p l e room_1 s m args below meth c Qw nL cc (lwRel L b G dT cL A s.heap) U (lwE L Ls xs) := by
  intro i n pc st J a k _ hd hn h
  unfold lwE at h
  split at h
  · have e1 := eq_of_beq hn
    subst e1
    exact lw_ld_s hx hb hX hbl hbA hd h
  · have e1 := eq_of_beq hn
    subst e1
    exact lw_ln_s hx hb hX hbl hbA hd h
  · have e1 := eq_of_beq hn
    subst e1
    exact lw_d_s hx hb hml hown hts hK hGl hA (ctX3_coach l L) (cwV 2 hts gL_law_X3_coach rfl rfl rfl (by decide +kernel) ⟨Nat.le_of_ble_eq_true rfl, Nat.le_of_ble_eq_true rfl⟩) hd h
  · have e1 := eq_of_beq hn
    subst e1
    exact lw_m_s hx hb hml hown hts hK hGl hA (ctX4_coach l) (cwV 2 hts gL_law_X4_coach rfl rfl rfl (by decide +kernel) ⟨Nat.le_of_ble_eq_true rfl, Nat.le_of_ble_eq_true rfl⟩) hd h
  · have e1 := eq_of_beq hn
    subst e1
    exact lw_d_s hx hb hml hown hts hK hGl hA (ctX3_flags l L) (cwV 3 hts gL_law_X3_flags rfl rfl rfl (by decide +kernel) ⟨Nat.le_of_ble_eq_true rfl, Nat.le_of_ble_eq_true rfl⟩) hd h
  · have e1 := eq_of_beq hn
    subst e1
    exact lw_m_s hx hb hml hown hts hK hGl hA (ctX4_flags l) (cwV 3 hts gL_law_X4_flags rfl rfl rfl (by decide +kernel) ⟨Nat.le_of_ble_eq_true rfl, Nat.le_of_ble_eq_true rfl⟩) hd h
  · have e1 := eq_of_beq hn
    subst e1
    exact lw_d_s hx hb hml hown hts hK hGl hA (ctX3_quota l L) (cwV 3 hts gL_law_X3_quota rfl rfl rfl (by decide +kernel) ⟨Nat.le_of_ble_eq_true rfl, Nat.le_of_ble_eq_true rfl⟩) hd h
  · have e1 := eq_of_beq hn
    subst e1
    exact lw_m_s hx hb hml hown hts hK hGl hA (ctX4_quota l) (cwV 3 hts gL_law_X4_quota rfl rfl rfl (by decide +kernel) ⟨Nat.le_of_ble_eq_true rfl, Nat.le_of_ble_eq_true rfl⟩) hd h
  · have e1 := eq_of_beq hn
    subst e1
    exact lw_d_s hx hb hml hown hts hK hGl hA (ctX3_book l L) (cwV 3 hts gL_law_X3_book rfl rfl rfl (by decide +kernel) ⟨Nat.le_of_ble_eq_true rfl, Nat.le_of_ble_eq_true rfl⟩) hd h
  · have e1 := eq_of_beq hn
    subst e1
    exact lw_m_s hx hb hml hown hts hK hGl hA (ctX4_book l) (cwV 3 hts gL_law_X4_book rfl rfl rfl (by decide +kernel) ⟨Nat.le_of_ble_eq_true rfl, Nat.le_of_ble_eq_true rfl⟩) hd h
  · have e1 := eq_of_beq hn
    subst e1
    exact lw_d_s hx hb hml hown hts hK hGl hA (ctX3_agencyBook l L) (cwV 4 hts gL_law_X3_agencyBook rfl rfl rfl (by decide +kernel) ⟨Nat.le_of_ble_eq_true rfl, Nat.le_of_ble_eq_true rfl⟩) hd h
  · have e1 := eq_of_beq hn
    subst e1
    exact lw_m_s hx hb hml hown hts hK hGl hA (ctX4_agencyBook l) (cwV 4 hts gL_law_X4_agencyBook rfl rfl rfl (by decide +kernel) ⟨Nat.le_of_ble_eq_true rfl, Nat.le_of_ble_eq_true rfl⟩) hd h
  · have e1 := eq_of_beq hn
    subst e1
    exact lw_d_s hx hb hml hown hts hK hGl hA (ctX3_bookSeat l L) (cwV 4 hts gL_law_X3_bookSeat rfl rfl rfl (by decide +kernel) ⟨Nat.le_of_ble_eq_true rfl, Nat.le_of_ble_eq_true rfl⟩) hd h
  · have e1 := eq_of_beq hn
    subst e1
    exact lw_m_s hx hb hml hown hts hK hGl hA (ctX4_bookSeat l) (cwV 4 hts gL_law_X4_bookSeat rfl rfl rfl (by decide +kernel) ⟨Nat.le_of_ble_eq_true rfl, Nat.le_of_ble_eq_true rfl⟩) hd h
  · have e1 := eq_of_beq hn
    subst e1
    exact lw_d_s hx hb hml hown hts hK hGl hA (ctX3_bookGroup l L) (cwV 4 hts gL_law_X3_bookGroup rfl rfl rfl (by decide +kernel) ⟨Nat.le_of_ble_eq_true rfl, Nat.le_of_ble_eq_true rfl⟩) hd h
  · have e1 := eq_of_beq hn
    subst e1
    exact lw_m_s hx hb hml hown hts hK hGl hA (ctX4_bookGroup l) (cwV 4 hts gL_law_X4_bookGroup rfl rfl rfl (by decide +kernel) ⟨Nat.le_of_ble_eq_true rfl, Nat.le_of_ble_eq_true rfl⟩) hd h
  · have e1 := eq_of_beq hn
    subst e1
    exact lw_d_s hx hb hml hown hts hK hGl hA (ctX3_offerChanges l L) (cwV 3 hts gL_law_X3_offerChanges rfl rfl rfl (by decide +kernel) ⟨Nat.le_of_ble_eq_true rfl, Nat.le_of_ble_eq_true rfl⟩) hd h
  · have e1 := eq_of_beq hn
    subst e1
    exact lw_m_s hx hb hml hown hts hK hGl hA (ctX4_offerChanges l) (cwV 3 hts gL_law_X4_offerChanges rfl rfl rfl (by decide +kernel) ⟨Nat.le_of_ble_eq_true rfl, Nat.le_of_ble_eq_true rfl⟩) hd h
  · have e1 := eq_of_beq hn
    subst e1
    exact lw_d_s hx hb hml hown hts hK hGl hA (ctX3_bookChanges l L) (cwV 3 hts gL_law_X3_bookChanges rfl rfl rfl (by decide +kernel) ⟨Nat.le_of_ble_eq_true rfl, Nat.le_of_ble_eq_true rfl⟩) hd h
  · have e1 := eq_of_beq hn
    subst e1
    exact lw_m_s hx hb hml hown hts hK hGl hA (ctX4_bookChanges l) (cwV 3 hts gL_law_X4_bookChanges rfl rfl rfl (by decide +kernel) ⟨Nat.le_of_ble_eq_true rfl, Nat.le_of_ble_eq_true rfl⟩) hd h
  · have e1 := eq_of_beq hn
    subst e1
    exact lw_d_s hx hb hml hown hts hK hGl hA (ctX3_wish l L) (cwV 2 hts gL_law_X3_wish rfl rfl rfl (by decide +kernel) ⟨Nat.le_of_ble_eq_true rfl, Nat.le_of_ble_eq_true rfl⟩) hd h
  · have e1 := eq_of_beq hn
    subst e1
    exact lw_m_s hx hb hml hown hts hK hGl hA (ctX4_wish l) (cwV 2 hts gL_law_X4_wish rfl rfl rfl (by decide +kernel) ⟨Nat.le_of_ble_eq_true rfl, Nat.le_of_ble_eq_true rfl⟩) hd h
  · have e1 := eq_of_beq hn
    subst e1
    exact lw_d_s hx hb hml hown hts hK hGl hA (ctX3_print l L) (cwV 1 hts gL_law_X3_print rfl rfl rfl (by decide +kernel) ⟨Nat.le_of_ble_eq_true rfl, Nat.le_of_ble_eq_true rfl⟩) hd h
  · have e1 := eq_of_beq hn
    subst e1
    exact lw_m_s hx hb hml hown hts hK hGl hA (ctX4_print l) (cwV 1 hts gL_law_X4_print rfl rfl rfl (by decide +kernel) ⟨Nat.le_of_ble_eq_true rfl, Nat.le_of_ble_eq_true rfl⟩) hd h
  · have e1 := eq_of_beq hn
    subst e1
    exact lw_d_s hx hb hml hown hts hK hGl hA (ctX3_cancel l L) (cwV 1 hts gL_law_X3_cancel rfl rfl rfl (by decide +kernel) ⟨Nat.le_of_ble_eq_true rfl, Nat.le_of_ble_eq_true rfl⟩) hd h
  · have e1 := eq_of_beq hn
    subst e1
    exact lw_m_s hx hb hml hown hts hK hGl hA (ctX4_cancel l) (cwV 1 hts gL_law_X4_cancel rfl rfl rfl (by decide +kernel) ⟨Nat.le_of_ble_eq_true rfl, Nat.le_of_ble_eq_true rfl⟩) hd h
  · have e1 := eq_of_beq hn
    subst e1
    exact lw_d_s hx hb hml hown hts hK hGl hA (ctX3_shorten l L) (cwV 3 hts gL_law_X3_shorten rfl rfl rfl (by decide +kernel) ⟨Nat.le_of_ble_eq_true rfl, Nat.le_of_ble_eq_true rfl⟩) hd h
  · have e1 := eq_of_beq hn
    subst e1
    exact lw_m_s hx hb hml hown hts hK hGl hA (ctX4_shorten l) (cwV 3 hts gL_law_X4_shorten rfl rfl rfl (by decide +kernel) ⟨Nat.le_of_ble_eq_true rfl, Nat.le_of_ble_eq_true rfl⟩) hd h
  · have e1 := eq_of_beq hn
    subst e1
    exact lw_d_s hx hb hml hown hts hK hGl hA (ctX3_seatOf l L) (cwV 2 hts gL_law_X3_seatOf rfl rfl rfl (by decide +kernel) ⟨Nat.le_of_ble_eq_true rfl, Nat.le_of_ble_eq_true rfl⟩) hd h
  · have e1 := eq_of_beq hn
    subst e1
    exact lw_m_s hx hb hml hown hts hK hGl hA (ctX4_seatOf l) (cwV 2 hts gL_law_X4_seatOf rfl rfl rfl (by decide +kernel) ⟨Nat.le_of_ble_eq_true rfl, Nat.le_of_ble_eq_true rfl⟩) hd h
  · have e1 := eq_of_beq hn
    subst e1
    exact lw_d_s hx hb hml hown hts hK hGl hA (ctX3_block l L) (cwV 4 hts gL_law_X3_block rfl rfl rfl (by decide +kernel) ⟨Nat.le_of_ble_eq_true rfl, Nat.le_of_ble_eq_true rfl⟩) hd h
  · have e1 := eq_of_beq hn
    subst e1
    exact lw_m_s hx hb hml hown hts hK hGl hA (ctX4_block l) (cwV 4 hts gL_law_X4_block rfl rfl rfl (by decide +kernel) ⟨Nat.le_of_ble_eq_true rfl, Nat.le_of_ble_eq_true rfl⟩) hd h
  · have e1 := eq_of_beq hn
    subst e1
    exact lw_d_s hx hb hml hown hts hK hGl hA (ctX3_unblock l L) (cwV 4 hts gL_law_X3_unblock rfl rfl rfl (by decide +kernel) ⟨Nat.le_of_ble_eq_true rfl, Nat.le_of_ble_eq_true rfl⟩) hd h
  · have e1 := eq_of_beq hn
    subst e1
    exact lw_m_s hx hb hml hown hts hK hGl hA (ctX4_unblock l) (cwV 4 hts gL_law_X4_unblock rfl rfl rfl (by decide +kernel) ⟨Nat.le_of_ble_eq_true rfl, Nat.le_of_ble_eq_true rfl⟩) hd h
  · have e1 := eq_of_beq hn
    subst e1
    exact lw_d_s hx hb hml hown hts hK hGl hA (ctX3_removeCoach l L) (cwV 1 hts gL_law_X3_removeCoach rfl rfl rfl (by decide +kernel) ⟨Nat.le_of_ble_eq_true rfl, Nat.le_of_ble_eq_true rfl⟩) hd h
  · have e1 := eq_of_beq hn
    subst e1
    exact lw_m_s hx hb hml hown hts hK hGl hA (ctX4_removeCoach l) (cwV 1 hts gL_law_X4_removeCoach rfl rfl rfl (by decide +kernel) ⟨Nat.le_of_ble_eq_true rfl, Nat.le_of_ble_eq_true rfl⟩) hd h
  · have e1 := eq_of_beq hn
    subst e1
    exact lw_d_s hx hb hml hown hts hK hGl hA (ctX3_standing l L) (cwV 1 hts gL_law_X3_standing rfl rfl rfl (by decide +kernel) ⟨Nat.le_of_ble_eq_true rfl, Nat.le_of_ble_eq_true rfl⟩) hd h
  · have e1 := eq_of_beq hn
    subst e1
    exact lw_m_s hx hb hml hown hts hK hGl hA (ctX4_standing l) (cwV 1 hts gL_law_X4_standing rfl rfl rfl (by decide +kernel) ⟨Nat.le_of_ble_eq_true rfl, Nat.le_of_ble_eq_true rfl⟩) hd h
  · have e1 := eq_of_beq hn
    subst e1
    exact lw_d_s hx hb hml hown hts hK hGl hA (ctX3_load l L) (cwV 2 hts gL_law_X3_load rfl rfl rfl (by decide +kernel) ⟨Nat.le_of_ble_eq_true rfl, Nat.le_of_ble_eq_true rfl⟩) hd h
  · have e1 := eq_of_beq hn
    subst e1
    exact lw_m_s hx hb hml hown hts hK hGl hA (ctX4_load l) (cwV 2 hts gL_law_X4_load rfl rfl rfl (by decide +kernel) ⟨Nat.le_of_ble_eq_true rfl, Nat.le_of_ble_eq_true rfl⟩) hd h
  · have e1 := eq_of_beq hn
    subst e1
    exact lw_d_s hx hb hml hown hts hK hGl hA (ctX3_free l L) (cwV 2 hts gL_law_X3_free rfl rfl rfl (by decide +kernel) ⟨Nat.le_of_ble_eq_true rfl, Nat.le_of_ble_eq_true rfl⟩) hd h
  · have e1 := eq_of_beq hn
    subst e1
    exact lw_m_s hx hb hml hown hts hK hGl hA (ctX4_free l) (cwV 2 hts gL_law_X4_free rfl rfl rfl (by decide +kernel) ⟨Nat.le_of_ble_eq_true rfl, Nat.le_of_ble_eq_true rfl⟩) hd h
  · have e1 := eq_of_beq hn
    subst e1
    exact lw_d_s hx hb hml hown hts hK hGl hA (ctX3_moved l L) (cwV 0 hts gL_law_X3_moved rfl rfl rfl (by decide +kernel) ⟨Nat.le_of_ble_eq_true rfl, Nat.le_of_ble_eq_true rfl⟩) hd h
  · have e1 := eq_of_beq hn
    subst e1
    exact lw_m_s hx hb hml hown hts hK hGl hA (ctX4_moved l) (cwV 0 hts gL_law_X4_moved rfl rfl rfl (by decide +kernel) ⟨Nat.le_of_ble_eq_true rfl, Nat.le_of_ble_eq_true rfl⟩) hd h
  · have e1 := eq_of_beq hn
    subst e1
    exact lw_d_s hx hb hml hown hts hK hGl hA (ctX3_manifest l L) (cwV 2 hts gL_law_X3_manifest rfl rfl rfl (by decide +kernel) ⟨Nat.le_of_ble_eq_true rfl, Nat.le_of_ble_eq_true rfl⟩) hd h
  · have e1 := eq_of_beq hn
    subst e1
    exact lw_m_s hx hb hml hown hts hK hGl hA (ctX4_manifest l) (cwV 2 hts gL_law_X4_manifest rfl rfl rfl (by decide +kernel) ⟨Nat.le_of_ble_eq_true rfl, Nat.le_of_ble_eq_true rfl⟩) hd h
  · have e1 := eq_of_beq hn
    subst e1
    exact lw_m_s hx hb hml hown hts hK hGl hA (ctX4_ride l) (cwV 2 hts gL_law_X4_ride rfl rfl rfl (by decide +kernel) ⟨Nat.le_of_ble_eq_true rfl, Nat.le_of_ble_eq_true rfl⟩) hd h
  · have e1 := eq_of_beq hn
    subst e1
    exact lw_m_s hx hb hml hown hts hK hGl hA (ctX4_thrown l) (cwV 0 hts gL_law_X4_thrown rfl rfl rfl (by decide +kernel) ⟨Nat.le_of_ble_eq_true rfl, Nat.le_of_ble_eq_true rfl⟩) hd h
  · have e1 := eq_of_beq hn
    subst e1
    exact lw_r_s hx hb hml hl hown hts hK hKl hGl hT hA hd h
  · exact h.elim
end LWE
