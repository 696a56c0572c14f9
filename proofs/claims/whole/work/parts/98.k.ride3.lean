def rd_N (U : State) : Prop := va_Nw (.declares (Bundle.initS "java/lang/RuntimeException")) U ∧ va_Nw (.declares (Bundle.initS "java/lang/Exception")) U ∧ va_Nw (.declares (Bundle.initS Bundle.tN)) U ∧ va_Nw (.castable "java/util/NoSuchElementException" "java/util/NoSuchElementException") U
theorem rd_N.warm {s U : State} (hW : s.WarmedH U.vm) (h : rd_N s) : rd_N U := ⟨h.1.warmD hW, h.2.1.warmD hW, h.2.2.1.warmD hW, h.2.2.2.warmC hW⟩
theorem rd_N.same {u U : State} (hv : u.vm = U.vm) (h : rd_N u) : rd_N U := ⟨va_Nw.same rfl hv h.1, va_Nw.same rfl hv h.2.1, va_Nw.same rfl hv h.2.2.1, va_Nw.same rfl hv h.2.2.2⟩
/-- what a throw needs of the world besides: the texts of the constants and Throwable's statics -/
def rd_T (A : Nat → Prop) (U : State) : Prop := rd_N U ∧ (∃ (sa : Nat) (tx : String), vk_R RX3 231 tx sa U) ∧ (∃ (sa : Nat) (tx : String), vk_R RX3 244 tx sa U) ∧ vx_Zq Bundle.tN "UNASSIGNED_STACK" Bundle.steD A U U.heap ∧ vx_Zq Bundle.tN "SUPPRESSED_SENTINEL" Bundle.listD A U U.heap
def rd_P (L : Nat) (G : va_G) (dT : Nat → ClassId) (ρ : Nat → Nat) (N : Nat) (D : am_D) (sz : Nat) (vs : List Value) : Array Value → State → Prop := va_Pc (vs.map (am_v ρ)) (fun U => U.heap.size = sz ∧ va_P G vwCl (am_W (sd_sh L) dT ρ N D) U.heap ∧ va_K G vwCl (am_ty dT) U ∧ va_D (fun _ => True) (am_W (sd_sh L) dT ρ N D) ∧ am_Gl U ∧ rd_T (va_A (am_W (sd_sh L) dT ρ N D) sz) U)
theorem rd_T.same {A : Nat → Prop} {u U : State} (hv : U.vm = u.vm) (hh : U.heap = u.heap) (h : rd_T A u) : rd_T A U := by
  obtain ⟨h0, ⟨sa, tx, h1⟩, ⟨sb, ty, h2⟩, h3, h4⟩ := h
  refine ⟨h0.same hv.symm, ⟨sa, tx, vk_R.same hv h1⟩, ⟨sb, ty, vk_R.same hv h2⟩, ?_, ?_⟩
  · rw [hh]; exact vx_Zq.moved (by rw [hv]; exact Vm.Alike.refl _) h3
  · rw [hh]; exact vx_Zq.moved (by rw [hv]; exact Vm.Alike.refl _) h4
theorem rd_blind {L : Nat} {G : va_G} {dT : Nat → ClassId} {ρ : Nat → Nat} {N : Nat} {D : am_D} {sz : Nat} {vs : List Value} : FrameBlind (rd_P L G dT ρ N D sz vs) := fun a U g mk q => by
  obtain ⟨q0, q1, qP, qK, qD, qG, qT⟩ := q
  exact ⟨q0, q1, qP, va_K.moved (u := U) (U := U.calling g mk a) (Vm.Alike.refl U.vm) qK, qD, am_Gl.same (u := U) (U := U.calling g mk a) rfl qG, qT.same (u := U) (U := U.calling g mk a) rfl rfl⟩
def rd_bad (D : am_D) (x w : Int32) : Prop := x < 0 ∨ D 0 4 ≤ x ∨ w < 0 ∨ 5 < w
def rd_k (D : am_D) (x w : Int32) (N : Nat) : Option Value → am_D → Nat → Prop := fun v D' N' => ¬ rd_bad D x w ∧ v = some (.int (dRideV D x.toNatClampNeg w.toNatClampNeg)) ∧ D' = D ∧ N' = N
def rd_X (L : Nat) (G : va_G) (dT : Nat → ClassId) (ρ : Nat → Nat) (N : Nat) (D : am_D) (sz : Nat) (x w : Int32) : String → State → State → Prop := fun E st t => E = "java/util/NoSuchElementException" ∧ rd_bad D x w ∧ (∃ ρ' : Nat → Nat, (∀ n, n < N → ρ' n = ρ n) ∧ va_P G vwCl (am_W (sd_sh L) dT ρ' N D) t.heap ∧ va_D (va_A (am_W (sd_sh L) dT ρ N D) sz) (am_W (sd_sh L) dT ρ' N D)) ∧ va_F (va_A (am_W (sd_sh L) dT ρ N D) sz) st t
set_option maxHeartbeats 4000000 in
set_option maxRecDepth 20000 in
theorem ctX3_ride {l : Launch} (hl : l.stackTraces = false) {L A : Nat} {D : am_D} {x w : Int32} (hO : dO L A D) (hW : dW L D) (G : va_G) (dT : Nat → ClassId) (ρ : Nat → Nat) (sz : Nat) (hRk : am_Rk (sd_sh L) (21 + 2 * A) D) :
    vx_Met l yX3_ride wsX3_ride ({ frames := 6, cells := 1, slots := 6, locals := 82 } : Room) (rd_P L G dT ρ (21 + 2 * A) D sz [.ref 0, .int x, .int w]) (am_Qc G vwCl dT (sd_sh L) ρ (21 + 2 * A) D sz (rd_k D x w (21 + 2 * A))) (rd_X L G dT ρ (21 + 2 * A) D sz x w) 1 6 (va_A (am_W (sd_sh L) dT ρ (21 + 2 * A) D) sz) := by
  obtain ⟨h1, h2⟩ := (Bool.and_eq_true _ _).mp kX3_ride
  obtain ⟨h2, h3⟩ := (Bool.and_eq_true _ _).mp h2
  obtain ⟨h3, h4⟩ := (Bool.and_eq_true _ _).mp h3
  obtain ⟨h4, h5⟩ := (Bool.and_eq_true _ _).mp h4
  obtain ⟨N, hN⟩ : ∃ N, N = 21 + 2 * A := ⟨_, rfl⟩
  rw [← hN] at hRk ⊢
  refine vx_ofW (cc := cX3_ride) (maxL := 3) (ret := some .int) (by decide +kernel) rfl ?_
  intro p e s m args below meth c s₁ B hml hnoX hv
  obtain ⟨rfl, hsz, hPw, hKw, hD0, hGl, ⟨hNw, ⟨sa, tx, hsa⟩, ⟨sb, ty, hsb⟩, hZ1, hZ2⟩⟩ := hv
  subst hsz
  have hx := B.exec
  have hb := B.bytes
  have hr := B.returns
  have hts := atoms_spec (ws := wsX3_ride) B.pre
  have hown : s.vm.findClass yX3_ride.cls = some m.cls := findClass_of_methodNamed B.named
  have hlocks := B.notSynchronized
  have hnm : meth.name = yX3_ride.name := (name_of_methodNamed B.named B.method).1
  have hD := hD0.self (sz := s.heap.size)
  have hS : va_S (va_A (am_W (sd_sh L) dT ρ N D) s.heap.size) s.heap s.heap [] := va_S.rf
  have hA : ∀ q, s.heap.size ≤ q → va_A (am_W (sd_sh L) dT ρ N D) s.heap.size q := fun q h => Or.inr h
  obtain ⟨Av, hAv⟩ : ∃ Av, Av = va_A (am_W (sd_sh L) dT ρ N D) s.heap.size := ⟨_, rfl⟩
  obtain ⟨av, hav⟩ : ∃ av, av = (([.ref 0, .int x, .int w] : List Value).map (am_v ρ)).toArray := ⟨_, rfl⟩
  obtain ⟨Qw, hQw⟩ : ∃ Qw, Qw = vx_MQ below (am_Qc G vwCl dT (sd_sh L) ρ N D s.heap.size (rd_k D x w N)) (rd_X L G dT ρ N D s.heap.size x w) av s 1 6 Av := ⟨_, rfl⟩
  obtain ⟨RR, hRR⟩ : ∃ RR : (Nat → Nat) → am_D → am_A → Heap → List Loc → Prop, RR = fun ρ' D' a' H' locs' => am_Rel G vwCl dT Av s.heap (sd_sh L) ρ' D' a' H' locs' ∧ N ≤ a'.1 ∧ ∀ n, n < N → ρ' n = ρ n := ⟨_, rfl⟩
  have hrs : am_RS p l e (headSpec wsX3_ride ({ frames := 6, cells := 1, slots := 6, locals := 82 } : Room)).room s m av below meth c Qw cX3_ride RR (fun v D' a' => rd_k D x w N v D' a'.1 ∧ a'.2.1 ≤ 1 ∧ a'.2.2 ≤ 6) := by
    intro i v pc D' a' ρ' H' locs' ls hd hi hq hRel hok
    obtain ⟨hk, hmc, hms⟩ := hq
    subst hRR
    obtain ⟨⟨gP, gD, gS, gR⟩, gN, gag⟩ := hRel
    have fin : ∀ t : State, t.heap = H' → s.WarmedH t.vm → am_Qc G vwCl dT (sd_sh L) ρ N D s.heap.size (rd_k D x w N) av s (.returned (v.map (am_v ρ'))) t := fun t ht _ => ⟨⟨v, ρ', a'.1, D', rfl, hk, gN, gag, gR, hok, by rw [ht]; exact gP, by rw [← hAv]; exact gD⟩, by rw [← hAv]; exact gS.F ht⟩
    obtain ⟨-, hvx, -, -⟩ := id hk
    subst hvx
    rcases hi with ⟨rfl, z, hz⟩ | ⟨rfl, z, hz, hz'⟩ | ⟨rfl, hz⟩
    · subst hQw
      refine W.widen hmc hms (vx_ret ?_)
      exact W.iret hx hb hr fin gS.2.2 hd hlocks
    · cases hz
      rcases hz' with ⟨n, q⟩ | q <;> cases q
    · cases hz
  have hes0 : am_ES p l e (headSpec wsX3_ride ({ frames := 6, cells := 1, slots := 6, locals := 82 } : Room)).room s m av below meth c Qw 3 cX3_ride (am_Rel G vwCl dT Av s.heap (sd_sh L)) (am_U bX3_ride) (am_Em (sd_sh L) 1 6 flX3 nwX3 (caX3_ride L)) := by
    refine am_Em_s hx hb hown (by rw [hav]; exact hts) hKw hGl (sd_sc L) am_cl1 (by rw [hAv]; exact hA) (cs := [1, 3]) ?_ h3 h4 (fun q => nomatch q) (csX3_ride l L p e s m av below meth c Qw G dT Av s.heap hx hb hml (by rw [hav]; exact hts) hown hnm hKw hGl (by rw [hAv]; exact hA))
    intro ci hci C T N hr w hw'
    have := List.all_eq_true.mp h5 ci hci
    rw [hr] at this
    exact of_decide_eq_true (List.all_eq_true.mp this w hw')
  have hes : am_ES p l e (headSpec wsX3_ride ({ frames := 6, cells := 1, slots := 6, locals := 82 } : Room)).room s m av below meth c Qw 3 cX3_ride RR (am_U bX3_ride) (am_Em (sd_sh L) 1 6 flX3 nwX3 (caX3_ride L)) := by
    subst hRR
    intro i n pc st D' a' k' hu hd hn h ρ' H' locs' ls hls hRel hst kk
    exact hes0 i n pc st D' a' k' hu hd hn h ρ' H' locs' ls hls hRel.1 hst (fun st2 D2 a2 ρ2 H2 locs2 q1 q2 q3 q4 q5 => kk st2 D2 a2 ρ2 H2 locs2 q1 q2 q3 ⟨q4, Nat.le_trans hRel.2.1 q2, fun n hn => (q3 n (Nat.lt_of_lt_of_le hn hRel.2.1)).trans (hRel.2.2 n hn)⟩ q5)
  have hC := am_closed hx hb (fun ρ' D' a' H' locs' h => by subst hRR; exact am_Rel.inj ρ' D' a' H' locs' h.1) hes hrs (bs := bX3_ride) (fun _ h => h) h1 h2
  have thr : ∀ (pc is sq : Nat) (tz : String), vk_R RX3 is tz sq s → rd_bad D x w → decode cX3_ride pc = .ok (.new 229, 3) → decode cX3_ride (pc + 3) = .ok (.dup, 1) → decode cX3_ride (pc + 4) = .ok (.ldc is, 2) → decode cX3_ride (pc + 6) = .ok (.invokespecial 233, 3) → decode cX3_ride (pc + 9) = .ok (.athrow, 1) → am_KW p l e (headSpec wsX3_ride ({ frames := 6, cells := 1, slots := 6, locals := 82 } : Room)).room s m av below meth c Qw 3 RR pc [.ref 0, .int x, .int w] [] D (N, 0, 0) := by
    intro pc is sq tz hst hbad d0 d3 d4 d6 d9 ρ' H' locs' ls hRel hLL _
    subst hRR
    obtain ⟨⟨gP, gD, gS, gR⟩, gN, gag⟩ := hRel
    subst hQw
    refine ns_throw hx hb hl (cls := "java/util/NoSuchElementException") (names := ["java/lang/RuntimeException", "java/lang/Exception"]) (A := Av) (rx := nsCode) (ix := 13) (by decide +kernel) (by decide +kernel) (by decide +kernel) (by decide +kernel) hown (by decide +kernel) (by decide +kernel) (by rw [hav]; exact hts _ (by decide +kernel)) (by rw [hav]; exact hts _ (by decide +kernel)) hst ?_ (by decide +kernel) (by rw [hAv]; exact hZ1) (by rw [hAv]; exact hZ2) gS (hLL.2.2.1.trans hml.symm) d0 d3 d4 d6 d9 (fun z hz => (hnoX z hz).elim) (by decide) (Nat.le_of_ble_eq_true rfl) (Nat.le_of_ble_eq_true rfl) (Nat.le_of_ble_eq_true rfl) hlocks ?_ gS.2.2 (Nat.le_refl _) (Nat.le_refl _)
    · rw [hav]
      refine vx_hat (B := [.declares (Bundle.initS "java/lang/RuntimeException"), .declares (Bundle.initS "java/lang/Exception"), .declares (Bundle.initS Bundle.tN), .castable "java/util/NoSuchElementException" "java/util/NoSuchElementException"]) (fun z hz => hts z ?_) (by decide +kernel) (vx_c (hNw.1.use rfl) (vx_c (hNw.2.1.use rfl) (vx_c (hNw.2.2.1.use rfl) (vx_c (hNw.2.2.2.use rfl) vx_n))))
      exact List.mem_cons_of_mem _ (List.mem_append_right _ hz)
    · intro t _ ht1 ht2
      refine ⟨rfl, hbad, ⟨ρ', gag, gP.kept (fun k q hk => ht2 _ ((gP k q hk).lt)), by rw [← hAv]; exact gD⟩, ?_⟩
      rw [← hAv]
      exact ⟨Nat.le_trans gS.1 ht1, fun q hq hnA => (ht2 q (Nat.lt_of_lt_of_le hq gS.1)).trans (gS.2.1 q hq hnA)⟩
  have hgo := ride_go (x := x) (w := w) hC hO hW (fun h => by rw [← hN]; exact thr 12 231 sa tx hsa (h.elim Or.inl (fun z => Or.inr (Or.inl z))) (by decide +kernel) (by decide +kernel) (by decide +kernel) (by decide +kernel) (by decide +kernel))
    (fun h => by rw [← hN]; exact thr 120 244 sb ty hsb (Or.inr (Or.inr h)) (by decide +kernel) (by decide +kernel) (by decide +kernel) (by decide +kernel) (by decide +kernel)) (fun h => ⟨⟨h, rfl, rfl, hN.symm⟩, Nat.zero_le _, Nat.zero_le _⟩)
  rw [lg_entry_eq]
  have hl3 := lv_entry (([.ref 0, .int x, .int w] : List Value).map (am_v ρ)) (n := 3) (Nat.le_of_ble_eq_true rfl)
  have hvs : ∀ v ∈ ([.ref 0, .int x, .int w] : List Value), am_okv N v := fun v hv => by
    simp only [List.mem_cons, List.not_mem_nil, or_false] at hv
    rcases hv with rfl | rfl | rfl
    · show 0 < N
      omega
    · trivial
    · trivial
  rw [← hN] at hgo
  rw [← hav, ← hAv, ← hQw]
  refine hgo ρ s.heap [] _ ?_ ⟨rfl, ?_, hl3.1, hl3.2.1, ?_⟩ (fun v hv => by cases hv)
  · subst hRR
    exact ⟨⟨hPw, by rw [hAv]; exact hD, by rw [hAv]; exact hS, hRk⟩, Nat.le_refl _, fun _ _ => rfl⟩
  · intro j v hj hu
    exact hvs v (List.mem_of_getElem? hj)
  · rintro ⟨j, w'⟩ hq
    obtain ⟨v, hj, hu, rfl⟩ := am_al_mem.mp hq
    have := am_entry (nL := 3) (ρ := ρ) 0 hvs j v hj
    rw [Nat.zero_add] at this
    exact hl3.2.2 _ this
