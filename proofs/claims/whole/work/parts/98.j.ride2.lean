/-! ===== ride: its contract; it returns or throws ===== -/
set_option maxRecDepth 20000 in
theorem kX3_ride : am_all cX3_ride vwCl wsX3_ride RX3 flX3 nwX3 false [1, 3] bX3_ride = true := by decide +kernel
set_option maxRecDepth 20000 in
theorem csX3_ride (l : Launch) (L : Nat) : am_CS l cX3_ride (sd_sh L) wsX3_ride ({ frames := 6, cells := 1, slots := 6, locals := 82 } : Room) 3 yX3_ride bX3_ride (caX3_ride L) := by
  intro p e s m args below meth c Qw G dT A H0 hx hb hml hts hown hnm hK hGl hA i n pc st D a k hu hd hn h
  unfold caX3_ride at h
  split at h
  · have e1 := eq_of_beq hn
    subst e1
    exact am_callV_s hx hb hml hown hts hK hGl hA (ctX1_changes l L) rfl (cwV 0 hts gX3_ride_X1_changes rfl rfl rfl (by decide +kernel) ⟨Nat.le_of_ble_eq_true rfl, Nat.le_of_ble_eq_true rfl⟩) rfl rfl hd h
  · exact h.elim
