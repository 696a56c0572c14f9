/-! ===== the desk's constructor: its contract ===== -/
set_option maxRecDepth 20000 in
theorem csX3_init (l : Launch) (L : Nat) : am_CS l cX3_init (sd_s0 L) wsX3_init ({ frames := 2, cells := 20, slots := 2104, locals := 41 } : Room) 3 yX3_init bX3_init (caX3_init L) := by
  intro p e s m args below meth c Qw G dT A H0 hx hb hml hts hown hnm hK hGl hA i n pc st D a k hu hd hn h
  unfold caX3_init at h
  split at h
  · have e1 := eq_of_beq hn
    subst e1
    exact am_callI_s hx hb hml hown hts hK hGl hA (ctX2_init l L) (cwI 1 hts gX3_init_X2_init rfl rfl rfl (hts _ (by decide +kernel)) (hts (.methodLink RX3 15 yX2_init) (by decide +kernel)) (hts (.instanceMethod yX2_init) (by decide +kernel)) rfl (by decide +kernel) ⟨Nat.le_of_ble_eq_true rfl, Nat.le_of_ble_eq_true rfl⟩) rfl rfl hd h
  · have e1 := eq_of_beq hn
    subst e1
    exact am_callIN_s hx hb hml hown hts hK hGl hA (ctX0_init l L) ⟨va_cnB 0 hts gX3_init_X0_init_n24 rfl rfl rfl hGl.2.2.2 (hts _ (by decide +kernel)) (by decide +kernel) ⟨Nat.le_of_ble_eq_true rfl, Nat.le_of_ble_eq_true rfl⟩, rfl, hts _ (by decide +kernel)⟩ rfl rfl hd h
  · have e1 := eq_of_beq hn
    subst e1
    exact am_objI_s hx hb hml hown (hts (.methodLink RX3 1 objectInit) (by decide +kernel)) (hts (.instanceMethod objectInit) (by decide +kernel)) (hts (.code objectInit ⟨#[0xb1]⟩ 1 none) (by decide +kernel)) (by decide) (by decide) hd h
  · have e1 := eq_of_beq hn
    subst e1
    exact am_mua_s hx hb hown (hts (.classLink RX3 35 "[[I") (by decide +kernel)) hGl.2.1 (hts (.arrayClass .int) (by decide +kernel)) hK hA rfl rfl hd h
  · exact h.elim
theorem ctX3_init (l : Launch) (L : Nat) : am_Ctr l vwCl (sd_s0 L) yX3_init wsX3_init ({ frames := 2, cells := 20, slots := 2104, locals := 41 } : Room) 20 2104 (sp_X3_init L) := am_mk (cal := (caX3_init L)) kX3_init (sd_sc0 L) (by decide +kernel) rfl (Or.inl rfl) (fun _ => rfl) (csX3_init l L) (puX3_init L)
