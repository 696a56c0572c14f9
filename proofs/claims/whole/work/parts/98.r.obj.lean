/-! ===== the law's start: a new object, with the script's first number ===== -/
section LWS
variable {p : Program} {l : Launch} {e : Env} {s : State} {m : MethodId} {below : List Frame} {meth : Method} {c : Code} {G : va_G} {dT : Nat → ClassId} {b : Nat} {Qw : State → Prop}
def am_0 : am_D := fun _ _ => 0
set_option maxHeartbeats 1000000 in
set_option maxRecDepth 20000 in
theorem st_obj (hx : p.tables.exec = Jvm.exec) (hb : c.code = code) (hml : c.maxLocals = 7) (hown : s.vm.findClass RL = some m.cls) (hts : ∀ w ∈ wsL_law, w.before #[Value.ref b] s = true) (hK : va_K G vwCl (am_ty dT) s) (hGl : am_Gl s) {Ls : Nat} {xs : Nat → Int32} (hLs : Ls ≤ 2561) (hX : va_X b Ls xs s s.heap) (hbl : b < s.heap.size)
    {sh : Nat → am_Sh} {ci ix index mc ms maxL : Nat} {ks : List Nat} {y : MethodName} {ws : List Cond} {rm : Room} {P : am_P} {bytes : ByteArray} {k : am_D → Nat → Prop} (hsc : am_SC vwCl sh) (hs0 : sh 0 = .inl (ci, ks)) (hall : (ks.all fun k => decide (k ≤ 2)) = true) (hf : am_FN vwCl wsL_law RL ix ci) (hM : am_Ctr l vwCl sh y ws rm mc ms P) (cw : CallB room_1 s #[Value.ref b] RL index y bytes maxL none ws rm mc ms 1 ∧ y.name = "<init>" ∧ (Cond.instanceMethod y).before #[Value.ref b] s = true)
    {pc : Nat} (d0 : decode code pc = .ok (.new ix, 3)) (d3 : decode code (pc + 3) = .ok (.dup, 1)) (d4 : decode code (pc + 4) = .ok (.aload_n 0, 1)) (d5 : decode code (pc + 5) = .ok (.iconst 0, 1)) (d6 : decode code (pc + 6) = .ok (.invokestatic 15, 3)) (d9 : decode code (pc + 9) = .ok (.invokespecial index, 3))
    {H : Heap} {cells slots : Nat} {ls : Array Slot} (hsz : ls.size = 7) (g0 : ls[0]? = some (.val (.ref b))) (hHs : s.heap.size ≤ H.size) (hHk : ∀ q, q < s.heap.size → H[q]? = s.heap[q]?) (hc : cells + 1 + mc ≤ 601024) (hsl : slots + ks.length + ms ≤ 7293000)
    (hP : P [.ref 0, .int (sc0 Ls xs)] am_0 1 (fun v D' N' => v.toList ++ [Value.ref 0] = [.ref 0] ∧ k D' N' ∧ (cells + 1 + mc, slots + ks.length + ms) = (cells + 1 + mc, slots + ks.length + ms)))
    (kk : ∀ (ρ : Nat → Nat) (N' : Nat) (D' : am_D) (H1 : Heap), k D' N' → 1 ≤ N' → va_P G vwCl (am_W sh dT ρ N' D') H1 → va_D (fun q => H.size ≤ q) (am_W sh dT ρ N' D') → am_Rk sh N' D' → H.size ≤ H1.size → (∀ q, q < H.size → H1[q]? = H[q]?) → W p l e room_1 s m #[Value.ref b] below meth c H1 [] (cells + 1 + mc) (slots + ks.length + ms) Qw (F0 m (pc + 12) ls [.ref (ρ 0)])) :
    W p l e room_1 s m #[Value.ref b] below meth c H [] cells slots Qw (F0 m pc ls []) := by
  have hA : ∀ q, H.size ≤ q → (fun q => H.size ≤ q) q := fun _ h => h
  have h1 : am_new sh room_1.cells room_1.slots ci [] am_0 (0, cells, slots) (fun st' D' a' => st' = [.ref 0] ∧ D' = am_0 ∧ a' = (1, cells + 1, slots + ks.length)) := by
    unfold am_new
    rw [show sh (0, cells, slots).1 = .inl (ci, ks) from hs0]
    unfold am_ob
    refine ⟨rfl, hall, by show cells + 1 ≤ 601024; omega, by show slots + ks.length ≤ 7293000; omega, rfl, ?_, rfl⟩
    funext n j
    unfold am_z am_0
    split <;> rfl
  refine am_new_s (R := room_1) (l := l) (e := e) (below := below) (meth := meth) (Qw := Qw) (nL := 7) hx hb hts hown hK hsc hA rfl rfl hf d0 h1 (fun _ => 0) H [] ls hsz ⟨fun k q hk => by simp [am_W] at hk, ⟨fun i j a b ha => by simp [am_W] at ha, fun k q hk => by simp [am_W] at hk⟩, va_S.rf, ⟨fun n _ _ _ hn => absurd hn (Nat.not_lt_zero _), fun n _ _ hn => absurd hn (Nat.not_lt_zero _)⟩⟩ (fun v hv => nomatch hv) ?_
  rintro st' D' a' ρ1 H1 locs1 ⟨rfl, rfl, rfl⟩ - - hR1 hst1
  refine lv_dup hx hb d3 rfl ?_
  refine lv_aload_n hx hb d4 rfl g0 ?_
  refine lv_iconst hx hb d5 rfl ?_
  obtain ⟨hP1, hD1, hS1, hk1⟩ := hR1
  have hX1 : va_X b Ls xs s H1 := hX.kept (by rw [hS1.2.1 b (Nat.lt_of_lt_of_le hbl hHs) (Nat.not_le.mpr (Nat.lt_of_lt_of_le hbl hHs)), hHk b hbl])
  have hbl1 : b < H1.size := Nat.lt_of_lt_of_le hbl (Nat.le_trans hHs hS1.1)
  have hrun := va_runS (R := room_1) (e := e) (below := below) (meth := meth) (H := H1) (locs := locs1) (cells := cells + 1) (slots := slots + ks.length) (As := [.ref b, .int 0]) (rest := [.ref (ρ1 0), .ref (ρ1 0)]) (g := F0 m (pc + 6) ls [.int 0, .ref b, .ref (ρ1 0), .ref (ρ1 0)]) ⟨hx, hb, hml, hown, hts⟩ (ctL_cell l (b := b) (xs := xs) hLs) (va_cwS 2 hts gL_law_L_cell rfl rfl rfl (by decide +kernel) ⟨Nat.le_of_ble_eq_true rfl, Nat.le_of_ble_eq_true rfl⟩) ⟨sc_blind, fun U hU hW => ⟨rfl, by rw [hU]; exact va_X.moved hW.alike hX1, by rw [hU]; exact hbl1⟩⟩ rfl rfl hsz rfl (Nat.le_of_ble_eq_true rfl) d6 ⟨by show cells + 1 + 0 ≤ 601024; omega, by show slots + ks.length + 0 ≤ 7293000; omega⟩
  intro T hT X
  obtain ⟨v, st₀, t, T', L1, e0, X', hL, e1, e2, ⟨hv, hheap⟩, st⟩ := hrun T hT X
  have hv : v = some (.int (sc0 Ls xs)) := Outcome.returned.inj hv
  subst hv
  have hT1 : T'.heap = H1 := by rw [e1, hheap, e0]
  have hgo : W p l e room_1 s m #[Value.ref b] below meth c H1 (locs1 ++ L1) (cells + 1) (slots + ks.length) Qw (F0 m (pc + 9) ls [.int (sc0 Ls xs), .ref (ρ1 0), .ref (ρ1 0)]) := by
    refine am_callI_s (R := room_1) (l := l) (e := e) (below := below) (meth := meth) (Qw := Qw) (nL := 7) (A := fun q => H.size ≤ q) (H0 := H) (st := [.int (sc0 Ls xs), .ref 0, .ref 0]) (D := am_0) (a := (1, cells + 1, slots + ks.length)) (k := fun st2 D2 a2 => st2 = [.ref 0] ∧ k D2 a2.1 ∧ a2.2 = (cells + 1 + mc, slots + ks.length + ms)) hx hb hml hown hts hK hGl hA hM cw rfl rfl d9 ⟨?_, ?_⟩ ρ1 H1 (locs1 ++ L1) ls hsz ⟨hP1, hD1, ⟨hS1.1, hS1.2.1, fun q hq => (List.mem_append.mp hq).elim (hS1.2.2 q) (fun h => (hL q h).elim)⟩, hk1⟩ (fun v hv => ?_) ?_
    · trivial
    · exact ⟨Nat.le_of_ble_eq_true rfl, Nat.le_of_ble_eq_true rfl, hc, hsl, hP⟩
    · simp only [List.mem_cons, List.not_mem_nil, or_false] at hv
      rcases hv with rfl | rfl | rfl
      · trivial
      · exact Nat.zero_lt_one
      · exact Nat.zero_lt_one
    · rintro st2 D2 ⟨N2, a2⟩ ρ2 H2 locs2 ⟨rfl, hkk, rfl⟩ hN2 - hR2 hst2
      obtain ⟨hP2, hD2, hS2, hk2⟩ := hR2
      exact va_forget (fun q hq => Nat.le_trans hHs (hS2.2.2 q hq)) (kk ρ2 N2 D2 H2 hkk hN2 hP2 hD2 hk2 hS2.1 (fun q hq => hS2.2.1 q hq (Nat.not_le.mpr hq)))
  obtain ⟨t2, a1, b1⟩ := hgo T' hT1 X'
  exact ⟨t2, st t2 a1, b1⟩
end LWS
