/-! ===== the whole law ===== -/
def st_kd (L : Nat) (D : am_D) (N : Nat) : Prop := N = 21 ∧ dRefs D ∧ D 0 0 = nI L ∧ D 0 4 = 0 ∧ D 0 6 = 0 ∧ D 1 0 = nI L ∧ D 1 1 = 0 ∧ D 1 7 = 0 ∧ D 9 2 = 0 ∧ (∀ g, g < 4 → D 13 g = nI (14 + g)) ∧ (∀ n j, 2 ≤ n → n ≤ 20 → n ≠ 9 → n ≠ 13 → D n j = 0)
def st_km (x : Int32) (M : am_D) (N : Nat) : Prop := N = 18 ∧ mRefs M ∧ (∀ n j, 1 ≤ n → n < 18 → M n j = 0) ∧ M 0 1 = stI x ∧ M 0 2 = 0 ∧ M 0 8 = 0 ∧ M 0 17 = 0 ∧ M 0 21 = 0
theorem st_dj {A B : Nat → Prop} {X Y : va_W} (hX : va_D A X) (hY : va_D B Y) (h : ∀ q, A q → ¬ B q) : lw_dj X Y := fun i j a b ha hb e => h a.1 (hX.2 i a ha) (by rw [e]; exact hY.2 j b hb)
set_option maxHeartbeats 4000000 in
set_option maxRecDepth 20000 in
theorem whole_start {p : Program} {e : Env} {s : State} {m : MethodId} {below : List Frame} {meth : Method} {c : Code} (l : Launch) (hl : l.stackTraces = false) {b L : Nat} {xs : Nat → Int32} (hL : L ≤ 2561) (C0 : lw_At p s m meth c b L xs) : W p l e room_1 s m #[Value.ref b] below meth c s.heap [] 0 0 (lw_Z below #[Value.ref b] s) (entryFrame m ([Value.ref b] : List Value).toArray 7) := by
  obtain ⟨hx, hb, hr, hml, hown, hts, hX, hbl, hlocks, hgv⟩ := C0
  obtain ⟨G, dT, hK⟩ := st_K hts
  have hGl := st_Gl hts
  have hT := st_T hts hgv
  have htl : ∀ w ∈ wsL_law, w.before #[Value.ref b] s = true := fun w h => hts w (wsL_law_in w h)
  obtain ⟨Ld, hL1, hL2, hst⟩ := stI_L (sc0 L xs)
  have hl7 := lv_entry ([.ref b] : List Value) (n := 7) (Nat.le_of_ble_eq_true rfl)
  rw [lg_entry_eq]
  generalize (lg_sl [Value.ref b] ++ List.replicate (7 - (lg_sl [Value.ref b]).length) Slot.unset).toArray = ls at hl7
  refine st_obj (p := p) (sh := sd_s0 Ld) (ci := 3) (ix := 8) (ks := [0, 2, 2, 2, 0, 2, 0, 2, 2, 2]) (mc := 20) (ms := 2104) (k := st_kd Ld) hx hb hml hown htl hK hGl hL hX hbl (sd_sc0 Ld) rfl (by decide) ⟨RX3, TX3, 10, rfl, inlX3, by decide +kernel, by decide +kernel, by decide +kernel⟩ (ctX3_init l Ld)
    (cwI 1 htl gL_law_X3_init rfl rfl rfl (htl (.initialized RX3) (by decide +kernel)) (htl (.methodLink RL 21 yX3_init) (by decide +kernel)) (htl (.instanceMethod yX3_init) (by decide +kernel)) rfl (by decide +kernel) ⟨Nat.le_of_ble_eq_true rfl, Nat.le_of_ble_eq_true rfl⟩)
    (pc := 0) (by decide +kernel) (by decide +kernel) (by decide +kernel) (by decide +kernel) (by decide +kernel) (by decide +kernel) hl7.1 (lv_at hl7 0 rfl) (Nat.le_refl _) (fun _ _ => rfl) (Nat.le_of_ble_eq_true rfl) (Nat.le_of_ble_eq_true rfl)
    ⟨sc0 L xs, rfl, rfl, hst, hL1, hL2, rfl, rfl, fun D' q1 q2 q3 q4 q5 q6 q7 q8 q9 q10 => ⟨rfl, ⟨rfl, q1, q2, q3, q4, q5, q6, q7, q8, q9, q10⟩, rfl⟩⟩ ?_
  rintro ρd Nd D H1 ⟨rfl, r0, r1, r2, r3, r4, r5, r6, r7, r8, r9⟩ - hPd hDd hRd hs1 hk1
  refine lv_astore_n hx hb (k := 1) (by decide +kernel) rfl hl7 (by decide) rfl (fun ls1 hls1 => ?_)
  refine st_obj (p := p) (sh := sm_s0) (ci := 4) (ix := 24) (ks := [0, 0, 0, 2, 2, 2, 2, 2, 0, 2, 2, 2, 2, 2, 2, 2, 2, 0, 2, 2, 2, 0, 2]) (mc := 17) (ms := 11771) (k := st_km (sc0 L xs)) hx hb hml hown htl hK hGl hL hX hbl sm_sc0 rfl (by decide) ⟨RX4, TX4, 23, rfl, inlX4, by decide +kernel, by decide +kernel, by decide +kernel⟩ (ctX4_init l)
    (cwI 1 htl gL_law_X4_init rfl rfl rfl (htl (.initialized RX4) (by decide +kernel)) (htl (.methodLink RL 26 yX4_init) (by decide +kernel)) (htl (.instanceMethod yX4_init) (by decide +kernel)) rfl (by decide +kernel) ⟨Nat.le_of_ble_eq_true rfl, Nat.le_of_ble_eq_true rfl⟩)
    (pc := 13) (by decide +kernel) (by decide +kernel) (by decide +kernel) (by decide +kernel) (by decide +kernel) (by decide +kernel) hls1.1 (lv_at hls1 1 rfl) hs1 hk1 (Nat.le_of_ble_eq_true rfl) (Nat.le_of_ble_eq_true rfl)
    ⟨sc0 L xs, rfl, rfl, fun M' q1 q2 q3 q4 q5 q6 q7 => ⟨rfl, ⟨rfl, q1, q2, q3, q4, q5, q6, q7⟩, rfl⟩⟩ ?_
  rintro ρm Nm M H2 ⟨rfl, t0, t1, t2, t3, t4, t5, t6⟩ - hPm hDm hRm hs2 hk2
  refine lv_astore_n hx hb (k := 2) (by decide +kernel) rfl hls1 (by decide) rfl (fun ls2 hls2 => ?_)
  refine lv_iconst hx hb (n := 1) (by decide +kernel) rfl ?_
  refine va_newa (D := G) (cl := vwCl) (tys := []) (ws := []) (A := fun q => H2.size ≤ q) (H0 := H2) (atype := .long) (ty := .long) (N' := 1) (a0 := (1, .inr (.inl fun _ => (0 : Int32).toInt64))) hx hb (htl (.arrayClass .long) (by decide +kernel)) rfl ⟨hK.1, fun k q hk => by cases hk⟩ (fun k q hk => by cases hk) ⟨fun i j a b ha => (by cases ha), fun k q hk => (by cases hk)⟩ va_S.rf (fun _ h => h) (fun cA => rfl) (by decide) (by decide) (by decide) (Nat.le_of_ble_eq_true rfl) (Nat.le_of_ble_eq_true rfl) (by decide +kernel) (fun o cL H3 hKl hPo hDo hSo => ?_)
  refine lv_astore_n hx hb (k := 3) (by decide +kernel) rfl hls2 (by decide) rfl (fun ls3 hls3 => ?_)
  refine lv_iconst hx hb (n := 1) (by decide +kernel) rfl ?_
  refine lv_istore hx hb (by decide +kernel) hls3 (i := 4) (by decide) rfl (fun ls4 hls4 => ?_)
  rw [sd_W0 r0] at hPd hDd
  rw [sm_W0 t0] at hPm hDm
  have hRel : Rel Ld 0 D M none := rel_start hL1 hL2 (t2.trans hst) t3 t4 t5 t6 t1 r1 r2 r3 r4 r5 r6 r7 r8 r9
  have hgo := lw_loop (p := p) (l := l) (e := e) (below := below) (meth := meth) (b := b) (L := Ld) (cL := cL) (J := jJ D M 0) (cl := 40) (sl := 13909) (v5 := am_u) (v6 := am_u) hx hb hr hml hl hown hlocks htl hK hKl hGl hT hL hX hbl (A := 0) (by rw [jD_J, jM_J]; exact hRel) (by rw [jM_J]; unfold vB; rw [t5]; decide) (by decide) (by decide)
  refine W.widen (k := 40) (n := 13909) (Nat.le_of_ble_eq_true rfl) (Nat.le_of_ble_eq_true rfl) ?_
  refine hgo (fun n => match n with | 0 => ρd 0 | 1 => ρm 0 | 2 => o | _ => b) H3 [] ls4 ?_ ?_ (fun v hv => nomatch hv)
  · have hPo1 : va_P G vwCl [(o, lw_o cL 0)] H3 := hPo
    have k3 : ∀ q, q < H2.size → H3[q]? = H2[q]? := fun q hq => hSo.2.1 q hq (Nat.not_le.mpr hq)
    have hDo1 : H2.size ≤ o := hDo.2 0 _ rfl
    have n1 : ∀ (i : Nat) (q : Nat × va_E), (am_W (sd_sh Ld) dT ρd 21 D)[i]? = some q → q.1 < H1.size := fun i q hq => (hPd i q hq).lt
    have n2 : ∀ (i : Nat) (q : Nat × va_E), (am_W sm_sh dT ρm 18 M)[i]? = some q → q.1 < H2.size := fun i q hq => (hPm i q hq).lt
    refine ⟨rfl, rfl, ρd, ρm, 0, rfl, rfl, by rw [jD_J]; exact hRel.O, ⟨?_, ?_, ?_⟩, ⟨?_, ?_, ?_⟩, ⟨?_, ?_, ?_⟩, ⟨Nat.le_trans hs1 (Nat.le_trans hs2 hSo.1), fun q hq _ => ?_, fun q hq => nomatch hq⟩, by rw [jD_J]; exact sd_Rk0 hRd, by rw [jM_J]; exact sm_Rk0 hRm⟩
    · rw [jD_J]
      exact hPd.kept (fun i q hq => (k3 _ (Nat.lt_of_lt_of_le (n1 i q hq) hs2)).trans (hk2 _ (n1 i q hq)))
    · rw [jM_J]
      exact hPm.kept (fun i q hq => k3 _ (n2 i q hq))
    · rw [jO_J]
      exact hPo1
    · rw [jD_J]
      exact hDd
    · rw [jM_J]
      exact hDm.weaken (fun _ _ _ h => Nat.le_trans hs1 h)
    · exact Nat.le_trans hs1 (Nat.le_trans hs2 hDo1)
    · rw [jD_J, jM_J]
      intro i j a b' ha hb' he
      have := n1 i a ha
      rw [he] at this
      exact absurd (hDm.2 j b' hb') (Nat.not_le.mpr this)
    · rw [jD_J, jO_J]
      intro i j a b' ha hb' he
      have := n1 i a ha
      rw [he, lw_k1 hb'] at this
      exact absurd (Nat.le_trans hs2 hDo1) (Nat.not_le.mpr this)
    · rw [jM_J, jO_J]
      intro i j a b' ha hb' he
      have := n2 i a ha
      rw [he, lw_k1 hb'] at this
      exact absurd hDo1 (Nat.not_le.mpr this)
    · rw [k3 q (Nat.lt_of_lt_of_le hq (Nat.le_trans hs1 hs2)), hk2 q (Nat.lt_of_lt_of_le hq hs1), hk1 q hq]
  · refine ⟨rfl, fun j v hj hu => ?_, hls4.1, hls4.2.1, ?_⟩
    · match j, hj with
      | 0, hj => cases hj; exact (by decide : 3 < 4)
      | 1, hj => cases hj; exact (by decide : 0 < 4)
      | 2, hj => cases hj; exact (by decide : 1 < 4)
      | 3, hj => cases hj; exact (by decide : 2 < 4)
      | 4, hj => cases hj; trivial
      | 5, hj => cases hj; exact absurd rfl hu
      | 6, hj => cases hj; exact absurd rfl hu
      | n + 7, hj => cases hj
    · rintro ⟨j, w⟩ hq
      obtain ⟨v, hj, hu, rfl⟩ := am_al_mem.mp hq
      match j, hj with
      | 0, hj => cases hj; exact lv_at hls4 4 rfl
      | 1, hj => cases hj; exact lv_at hls4 3 rfl
      | 2, hj => cases hj; exact lv_at hls4 2 rfl
      | 3, hj => cases hj; exact lv_at hls4 1 rfl
      | 4, hj => cases hj; exact lv_at hls4 0 rfl
      | 5, hj => cases hj; exact absurd rfl hu
      | 6, hj => cases hj; exact absurd rfl hu
      | n + 7, hj => cases hj
