/-! ===== the instructions on memory are sound ===== -/
theorem am_Rk.up {sh : Nat → am_Sh} {N : Nat} {D : am_D} {n j : Nat} {x : Int32} (h : am_Rk sh N D) (h1 : ∀ (q : Nat × List Nat) (k : Nat), sh n = .inl q → q.2[j]? = some k → am_okv N (am_va k x)) (h2 : ∀ q : Nat × Nat, sh n = .inr q → 2 ≤ q.1 → am_okv N (am_rf x)) : am_Rk sh N (am_up D n j x) := by
  constructor
  · intro n' q i k hn hs hq
    by_cases hc : n' = n ∧ i = j
    · obtain ⟨rfl, rfl⟩ := hc
      rw [am_up_same]
      exact h1 q k hs hq
    · rw [show am_up D n j x n' i = D n' i from if_neg hc]
      exact h.1 n' q i k hn hs hq
  · intro n' q i hn hs ht
    by_cases hc : n' = n ∧ i = j
    · obtain ⟨rfl, rfl⟩ := hc
      rw [am_up_same]
      exact h2 q hs ht
    · rw [show am_up D n j x n' i = D n' i from if_neg hc]
      exact h.2 n' q i hn hs ht
theorem am_rf_zero : am_rf 0 = .null := rfl
theorem am_rf_of {n : Nat} (h0 : 0 < n) (h : n < 2 ^ 31) : am_rf (Int32.ofNat n) = .ref n := by
  unfold am_rf
  rw [if_neg, show (Int32.ofNat n).toNatClampNeg = n from nI_clamp h]
  intro q
  have := congrArg Int32.toNatClampNeg q
  rw [show (Int32.ofNat n).toNatClampNeg = n from nI_clamp h] at this
  rw [show (0 : Int32).toNatClampNeg = 0 from by decide] at this
  omega
theorem am_rf_v {ρ : Nat → Nat} (x : Int32) : am_v ρ (am_rf x) = va_rf ((am_o (am_rf x)).map ρ) := by
  unfold am_rf
  split <;> rfl
theorem am_va_zero {k : Nat} (h : k ≤ 2) : am_va k 0 = .int 0 ∨ am_va k 0 = .null := by
  match k, h with
  | 0, _ => exact Or.inl rfl
  | 1, _ => exact Or.inl rfl
  | 2, _ => exact Or.inr rfl
theorem am_va_zero_v {ρ : Nat → Nat} {k : Nat} (h : k ≤ 2) : am_v ρ (am_va k 0) = am_va k 0 := by
  rcases am_va_zero h with q | q <;> rw [q] <;> rfl
theorem am_va_zero_ok {N k : Nat} (h : k ≤ 2) : am_okv N (am_va k 0) := by
  rcases am_va_zero h with q | q <;> rw [q] <;> trivial
theorem am_Rk.z {sh : Nat → am_Sh} {N : Nat} {D : am_D} (h : am_Rk sh N D) (h1 : ∀ (q : Nat × List Nat), sh N = .inl q → (q.2.all fun k => decide (k ≤ 2)) = true) : am_Rk sh (N + 1) (am_z D N) := by
  constructor
  · intro n' q i k hn hs hq
    by_cases hc : n' = N
    · subst hc
      rw [show am_z D n' n' i = 0 from if_pos rfl]
      exact am_va_zero_ok (of_decide_eq_true (List.all_eq_true.mp (h1 q hs) k (List.mem_of_getElem? hq)))
    · rw [am_z_ne hc]
      exact am_okv_mono (Nat.le_succ N) (h.1 n' q i k (by omega) hs hq)
  · intro n' q i hn hs ht
    by_cases hc : n' = N
    · subst hc
      rw [show am_z D n' n' i = 0 from if_pos rfl]
      trivial
    · rw [am_z_ne hc]
      exact am_okv_mono (Nat.le_succ N) (h.2 n' q i (by omega) hs ht)
/-- a field by its number in own's constant pool -/
def am_FF (cl : List vw_C) (Ts : List Cond) (own : String) (x : Nat) (q : Nat × Nat) : Prop := ∃ (C : String) (T : u_T) (N : Nat), cl[q.1]? = some (C, T, N) ∧ (∀ w ∈ u_ws C T N, w ∈ Ts) ∧ q.2 < N ∧ Cond.fieldLink own x (T q.2).1 (T q.2).2.1 (T q.2).2.2.1 ∈ Ts
/-- a class that is made -/
def am_FN (cl : List vw_C) (Ts : List Cond) (own : String) (x ci : Nat) : Prop := ∃ (C : String) (T : u_T) (N : Nat), cl[ci]? = some (C, T, N) ∧ (∀ w ∈ u_ws C T N, w ∈ Ts) ∧ Cond.classLink own x C ∈ Ts ∧ Cond.instantiable C N ∈ Ts ∧ Cond.initialized C ∈ Ts
theorem am_pv_e {kd : Nat} {v : Value} {k : Int32 → Prop} (h : am_pv kd v k) : ∃ x, k x ∧ am_va kd x = v ∧ ∀ (ρ : Nat → Nat) (ty : FieldType), am_kt kd ty → narrow ty (am_v ρ v) = am_v ρ v ∧ fits ty (am_v ρ v) = true := by
  match kd, h with
  | 0, h =>
    obtain ⟨x, rfl, h⟩ := am_i_e h
    refine ⟨x, h, rfl, fun ρ ty ht => ?_⟩
    have ht : ty = .int := ht
    subst ht
    exact ⟨rfl, rfl⟩
  | 1, h =>
    obtain ⟨x, rfl, hz, h⟩ := am_i_e h
    refine ⟨x, h, rfl, fun ρ ty ht => ?_⟩
    have ht : ty = .boolean := ht
    subst ht
    rcases hz with rfl | rfl
    · exact ⟨by rfl, by rfl⟩
    · exact ⟨by rfl, by rfl⟩
  | 2, h =>
    obtain ⟨n, rfl, h0, h1, h⟩ := am_n_e h
    refine ⟨_, h, am_rf_of h0 h1, fun ρ ty ht => ?_⟩
    have ht : ty.isReference = true := ht
    cases ty <;> first | exact ⟨rfl, rfl⟩ | cases ht
theorem am_kd {ks : List Nat} {j : Nat} (hl : j < ks.length) : ks[j]? = some (ks.getD j 0) := by
  rw [List.getD_eq_getElem?_getD, List.getElem?_eq_getElem hl]
  rfl
section AMQ
variable {p : Program} {l : Launch} {e : Env} {R : Room} {s : State} {m : MethodId} {args : Array Value} {below : List Frame} {meth : Method} {c : Code} {Qw : State → Prop} {cc : ByteArray} {nL : Nat}
variable {G : va_G} {cl : List vw_C} {dT : Nat → ClassId} {A : Nat → Prop} {H0 : Heap} {sh : Nat → am_Sh} {own : String} {Ts : List Cond}
variable {pc : Nat} {st : List Value} {D : am_D} {a : am_A} {k : List Value → am_D → am_A → Prop}
theorem am_get_s (hx : p.tables.exec = Jvm.exec) (hb : c.code = cc) (hts : ∀ w ∈ Ts, w.before args s = true) (hown : s.vm.findClass own = some m.cls) (hK : va_K G cl (am_ty dT) s) {x : Nat} {q : Nat × Nat} (hf : am_FF cl Ts own x q) (hd : decode cc pc = .ok (.getfield x, 3)) (h : am_get sh q st D a k) : am_SS p l e R s m args below meth c Qw nL (am_Rel G cl dT A H0 sh) pc 3 st D a k := by
  obtain ⟨v, r, rfl, h_1⟩ := am_p0_e h
  obtain ⟨n, rfl, hn, h_2⟩ := am_n_e h_1
  obtain ⟨ks, hs, hl, h_3⟩ := am_ob_e h_2
  intro ρ H locs ls hsz hR hst kk
  obtain ⟨hP, hD, hS, hk⟩ := hR
  obtain ⟨C, T, N, hc, hin, hj, hl2⟩ := hf
  have he : (am_W sh dT ρ a.1 D)[n]? = some (ρ n, .inr (q.1, ks.mapIdx fun i k => am_v ρ (am_va k (D n i)))) := by rw [am_W_at hn, hs]; rfl
  refine va_get hx hb hts hin hown hK hP n he hc q.2 hj (hts _ hl2) (fun _ h => h) (v := am_v ρ (am_va (ks.getD q.2 0) (D n q.2))) ?_ hd ?_
  · rw [List.getElem?_mapIdx, am_kd hl]; rfl
  · exact kk _ D a ρ H locs h_3 (Nat.le_refl _) (fun _ _ => rfl) ⟨hP, hD, hS, hk⟩ (List.forall_mem_cons.mpr ⟨hk.1 n (q.1, ks) q.2 _ hn hs (am_kd hl), fun v hv => hst v (List.mem_cons_of_mem _ hv)⟩)
theorem am_put_s (hx : p.tables.exec = Jvm.exec) (hb : c.code = cc) (hts : ∀ w ∈ Ts, w.before args s = true) (hown : s.vm.findClass own = some m.cls) (hK : va_K G cl (am_ty dT) s) (hsc : am_SC cl sh) {x : Nat} {q : Nat × Nat} (hf : am_FF cl Ts own x q) (hfin : ∀ (C : String) (T : u_T) (N : Nat), cl[q.1]? = some (C, T, N) → (T q.2).2.2.2 = false ∨ ((T q.2).2.2.2 = true ∧ meth.name = "<init>" ∧ (T q.2).1 = own)) (hd : decode cc pc = .ok (.putfield x, 3)) (h : am_put sh q st D a k) : am_SS p l e R s m args below meth c Qw nL (am_Rel G cl dT A H0 sh) pc 3 st D a k := by
  obtain ⟨v, r, rfl, h_1⟩ := am_p0_e h
  obtain ⟨o, r, rfl, h_2⟩ := am_p0_e h_1
  obtain ⟨n, rfl, hn, h_3⟩ := am_n_e h_2
  obtain ⟨ks, hs, hl, h_4⟩ := am_ob_e h_3
  obtain ⟨y, h_5, hy, hty⟩ := am_pv_e h_4
  intro ρ H locs ls hsz hR hst kk
  obtain ⟨hP, hD, hS, hk⟩ := hR
  obtain ⟨C, T, N, hc, hin, hj, hl2⟩ := hf
  obtain ⟨C', T', N', ty, hc', hlen, hpd, hnm, hkt⟩ := hsc n (q.1, ks) hs
  have e9 : some (C, T, N) = some (C', T', N') := hc.symm.trans hc'
  cases e9
  have he : (am_W sh dT ρ a.1 D)[n]? = some (ρ n, .inr (q.1, ks.mapIdx fun i k => am_v ρ (am_va k (D n i)))) := by rw [am_W_at hn, hs]; rfl
  obtain ⟨t1, t2⟩ := hty ρ (ty q.2) (hkt q.2 _ (am_kd hl))
  have hov := hst v List.mem_cons_self
  have hset : (am_W sh dT ρ a.1 D).set n (ρ n, .inr (q.1, (ks.mapIdx fun i k => am_v ρ (am_va k (D n i))).set q.2 (am_v ρ v))) = am_W sh dT ρ a.1 (am_up D n q.2 y) := by
    refine am_W_set hn ?_ (fun i hi => am_up_ne hi)
    rw [hs]
    show Sum.inr (q.1, _) = Sum.inr (q.1, _)
    congr 2
    apply List.ext_getElem?
    intro i
    by_cases hi : q.2 = i
    · subst hi
      rw [List.getElem?_set_self (by simpa using hl), List.getElem?_mapIdx, am_kd hl, am_up_same]
      exact congrArg some (congrArg (am_v ρ) hy.symm)
    · rw [List.getElem?_set_ne hi, List.getElem?_mapIdx, List.getElem?_mapIdx]
      rw [show am_up D n q.2 y n i = D n i from if_neg (fun z => hi z.2.symm)]
  have hk' : am_Rk sh a.1 (am_up D n q.2 y) := hk.up (fun q' k' hq' hk' => by
    rw [hs] at hq'
    cases hq'
    rw [am_kd hl] at hk'
    cases hk'
    rw [hy]
    exact hov) (fun q' hq' => by rw [hs] at hq'; cases hq')
  have fin : ∀ (H1 : Heap) (locs1 : List Loc), va_P G cl ((am_W sh dT ρ a.1 D).set n (ρ n, .inr (q.1, (ks.mapIdx fun i k => am_v ρ (am_va k (D n i))).set q.2 (am_v ρ v)))) H1 → va_D A ((am_W sh dT ρ a.1 D).set n (ρ n, .inr (q.1, (ks.mapIdx fun i k => am_v ρ (am_va k (D n i))).set q.2 (am_v ρ v)))) → va_S A H0 H1 locs1 → W p l e R s m args below meth c H1 locs1 a.2.1 a.2.2 Qw (F0 m (pc + 3) ls (r.map (am_v ρ))) := by
    intro H1 locs1 g1 g2 g3
    rw [hset] at g1 g2
    exact kk r _ a ρ H1 locs1 h_5 (Nat.le_refl _) (fun _ _ => rfl) ⟨g1, g2, g3, hk'⟩ (fun w hw => hst w (List.mem_cons_of_mem _ (List.mem_cons_of_mem _ hw)))
  have hll : q.2 < (ks.mapIdx fun i k => am_v ρ (am_va k (D n i))).length := by simpa using hl
  rcases hfin C T N hc with hf0 | ⟨hf1, hf2, hf3⟩
  · exact va_put hx hb hts hin ty hpd hnm hown hK hP hD hS n he hc q.2 hj (hts _ hl2) (fun _ h => h) hf0 (hpd q.2 hj) t1 t2 hll hd fin
  · exact va_putF hx hb hts hin ty hpd hnm hown hK hP hD hS n he hc q.2 hj (hts _ hl2) (fun _ h => h) hf1 hf2 hf3 (hpd q.2 hj) t1 t2 hll hd fin
theorem am_iald_s (hx : p.tables.exec = Jvm.exec) (hb : c.code = cc) (hK : va_K G cl (am_ty dT) s) (hd : decode cc pc = .ok (.iaload, 1)) (h : am_ald sh 0 st D a k) : am_SS p l e R s m args below meth c Qw nL (am_Rel G cl dT A H0 sh) pc 1 st D a k := by
  obtain ⟨j, r, rfl, h_1⟩ := am_p1_e h
  obtain ⟨o, r, rfl, h_2⟩ := am_p0_e h_1
  obtain ⟨n, rfl, hn, h_3⟩ := am_n_e h_2
  obtain ⟨z, hs, hin, h_4⟩ := am_ar_e h_3
  intro ρ H locs ls hsz hR hst kk
  obtain ⟨hP, hD, hS, hk⟩ := hR
  have he : (am_W sh dT ρ a.1 D)[n]? = some (ρ n, .inl (dT 0, z, .inl (D n))) := by rw [am_W_at hn, hs]; rfl
  exact va_iald hx hb hK hP n 0 he rfl hin hd (kk _ D a ρ H locs h_4 (Nat.le_refl _) (fun _ _ => rfl) ⟨hP, hD, hS, hk⟩ (List.forall_mem_cons.mpr ⟨trivial, fun v hv => hst v (List.mem_cons_of_mem _ (List.mem_cons_of_mem _ hv))⟩))
theorem am_zald_s (hx : p.tables.exec = Jvm.exec) (hb : c.code = cc) (hK : va_K G cl (am_ty dT) s) (hd : decode cc pc = .ok (.baload, 1)) (h : am_ald sh 1 st D a k) : am_SS p l e R s m args below meth c Qw nL (am_Rel G cl dT A H0 sh) pc 1 st D a k := by
  obtain ⟨j, r, rfl, h_1⟩ := am_p1_e h
  obtain ⟨o, r, rfl, h_2⟩ := am_p0_e h_1
  obtain ⟨n, rfl, hn, h_3⟩ := am_n_e h_2
  obtain ⟨z, hs, hin, h_4⟩ := am_ar_e h_3
  intro ρ H locs ls hsz hR hst kk
  obtain ⟨hP, hD, hS, hk⟩ := hR
  have he : (am_W sh dT ρ a.1 D)[n]? = some (ρ n, .inl (dT 1, z, .inl (D n))) := by rw [am_W_at hn, hs]; rfl
  exact va_zald hx hb hK hP n 1 he rfl hin hd (kk _ D a ρ H locs h_4 (Nat.le_refl _) (fun _ _ => rfl) ⟨hP, hD, hS, hk⟩ (List.forall_mem_cons.mpr ⟨trivial, fun v hv => hst v (List.mem_cons_of_mem _ (List.mem_cons_of_mem _ hv))⟩))
theorem am_qald_s (hx : p.tables.exec = Jvm.exec) (hb : c.code = cc) (hK : va_K G cl (am_ty dT) s) (hd : decode cc pc = .ok (.aaload, 1)) (h : am_ald sh 2 st D a k) : am_SS p l e R s m args below meth c Qw nL (am_Rel G cl dT A H0 sh) pc 1 st D a k := by
  obtain ⟨j, r, rfl, h_1⟩ := am_p1_e h
  obtain ⟨o, r, rfl, h_2⟩ := am_p0_e h_1
  obtain ⟨n, rfl, hn, h_3⟩ := am_n_e h_2
  obtain ⟨z, hs, hin, h_4⟩ := am_ar_e h_3
  intro ρ H locs ls hsz hR hst kk
  obtain ⟨hP, hD, hS, hk⟩ := hR
  have he : (am_W sh dT ρ a.1 D)[n]? = some (ρ n, .inl (dT 2, z, .inr (.inr (.inr (.inr fun j => (am_o (am_rf (D n j))).map ρ))))) := by rw [am_W_at hn, hs]; rfl
  refine va_aldq hx hb hK hP n 2 he rfl hin hd ?_
  rw [← am_rf_v]
  exact kk _ D a ρ H locs h_4 (Nat.le_refl _) (fun _ _ => rfl) ⟨hP, hD, hS, hk⟩ (List.forall_mem_cons.mpr ⟨hk.2 n _ _ hn hs (Nat.le_of_ble_eq_true rfl), fun v hv => hst v (List.mem_cons_of_mem _ (List.mem_cons_of_mem _ hv))⟩)
theorem am_rald_s (hx : p.tables.exec = Jvm.exec) (hb : c.code = cc) (hK : va_K G cl (am_ty dT) s) (hd : decode cc pc = .ok (.aaload, 1)) (h : am_ald sh 3 st D a k) : am_SS p l e R s m args below meth c Qw nL (am_Rel G cl dT A H0 sh) pc 1 st D a k := by
  obtain ⟨j, r, rfl, h_1⟩ := am_p1_e h
  obtain ⟨o, r, rfl, h_2⟩ := am_p0_e h_1
  obtain ⟨n, rfl, hn, h_3⟩ := am_n_e h_2
  obtain ⟨z, hs, hin, h_4⟩ := am_ar_e h_3
  intro ρ H locs ls hsz hR hst kk
  obtain ⟨hP, hD, hS, hk⟩ := hR
  have he : (am_W sh dT ρ a.1 D)[n]? = some (ρ n, .inl (dT 3, z, .inr (.inr (.inr (.inr fun j => (am_o (am_rf (D n j))).map ρ))))) := by rw [am_W_at hn, hs]; rfl
  have hlt : j.toNatClampNeg < z := Nat.not_le.mp fun q => hin (Or.inr q)
  refine W.aald (v := am_v ρ (am_rf (D n j.toNatClampNeg))) (ty := .array .int) hx hb (hP n _ he) ((hK.2 3 _ rfl).1 z (fun j => va_rf ((am_o (am_rf (D n j))).map ρ))) rfl (fun q => by cases q) (by show ¬ (j < 0 ∨ (arrV _ _ _).slots.size ≤ _); rw [arrV_size]; exact hin) (by show (arrV _ _ _).slots[_]? = _; rw [arrV_read _ _ hlt, am_rf_v]) rfl rfl hd ?_
  exact kk _ D a ρ H locs h_4 (Nat.le_refl _) (fun _ _ => rfl) ⟨hP, hD, hS, hk⟩ (List.forall_mem_cons.mpr ⟨hk.2 n _ _ hn hs (Nat.le_of_ble_eq_true rfl), fun v hv => hst v (List.mem_cons_of_mem _ (List.mem_cons_of_mem _ hv))⟩)
theorem am_iast_s (hx : p.tables.exec = Jvm.exec) (hb : c.code = cc) (hK : va_K G cl (am_ty dT) s) (hd : decode cc pc = .ok (.iastore, 1)) (h : am_ast sh 0 st D a k) : am_SS p l e R s m args below meth c Qw nL (am_Rel G cl dT A H0 sh) pc 1 st D a k := by
  obtain ⟨j, x, r, rfl, h_1⟩ := am_p2_e h
  obtain ⟨o, r, rfl, h_2⟩ := am_p0_e h_1
  obtain ⟨n, rfl, hn, h_3⟩ := am_n_e h_2
  obtain ⟨z, hs, hin, h_4⟩ := am_ar_e h_3
  intro ρ H locs ls hsz hR hst kk
  obtain ⟨hP, hD, hS, hk⟩ := hR
  have he : (am_W sh dT ρ a.1 D)[n]? = some (ρ n, .inl (dT 0, z, .inl (D n))) := by rw [am_W_at hn, hs]; rfl
  have hset : (am_W sh dT ρ a.1 D).set n (ρ n, .inl (dT 0, z, .inl (upd (D n) j.toNatClampNeg x))) = am_W sh dT ρ a.1 (am_up D n j.toNatClampNeg x) := by
    refine am_W_set hn ?_ (fun i hi => am_up_ne hi)
    rw [hs, show am_up D n j.toNatClampNeg x n = upd (D n) j.toNatClampNeg x from funext fun i => by simp [am_up, upd]]
    rfl
  refine va_iast hx hb hK hP hD hS n 0 he rfl hin hd (fun H1 locs1 g1 g2 g3 => ?_)
  rw [hset] at g1 g2
  exact kk _ _ a ρ H1 locs1 h_4 (Nat.le_refl _) (fun _ _ => rfl) ⟨g1, g2, g3, hk.up (fun q _ hq => by rw [hs] at hq; cases hq) (fun q hq ht => by rw [hs] at hq; cases hq; exact absurd (show 2 ≤ _ from ht) (Nat.not_le_of_lt (Nat.le_of_ble_eq_true rfl)))⟩ (fun v hv => hst v (List.mem_cons_of_mem _ (List.mem_cons_of_mem _ (List.mem_cons_of_mem _ hv))))
theorem am_zast_s (hx : p.tables.exec = Jvm.exec) (hb : c.code = cc) (hK : va_K G cl (am_ty dT) s) (hd : decode cc pc = .ok (.bastore, 1)) (h : am_ast sh 1 st D a k) : am_SS p l e R s m args below meth c Qw nL (am_Rel G cl dT A H0 sh) pc 1 st D a k := by
  obtain ⟨j, x, r, rfl, h_1⟩ := am_p2_e h
  obtain ⟨o, r, rfl, h_2⟩ := am_p0_e h_1
  obtain ⟨n, rfl, hn, h_3⟩ := am_n_e h_2
  obtain ⟨z, hs, hin, h_4⟩ := am_ar_e h_3
  intro ρ H locs ls hsz hR hst kk
  obtain ⟨hP, hD, hS, hk⟩ := hR
  have he : (am_W sh dT ρ a.1 D)[n]? = some (ρ n, .inl (dT 1, z, .inl (D n))) := by rw [am_W_at hn, hs]; rfl
  have hset : (am_W sh dT ρ a.1 D).set n (ρ n, .inl (dT 1, z, .inl (upd (D n) j.toNatClampNeg (vp_nar .boolean x)))) = am_W sh dT ρ a.1 (am_up D n j.toNatClampNeg (vp_nar .boolean x)) := by
    refine am_W_set hn ?_ (fun i hi => am_up_ne hi)
    rw [hs, show am_up D n j.toNatClampNeg (vp_nar .boolean x) n = upd (D n) j.toNatClampNeg (vp_nar .boolean x) from funext fun i => by simp [am_up, upd]]
    rfl
  refine va_zast hx hb hK hP hD hS n 1 he rfl hin hd (fun H1 locs1 g1 g2 g3 => ?_)
  rw [hset] at g1 g2
  exact kk _ _ a ρ H1 locs1 h_4 (Nat.le_refl _) (fun _ _ => rfl) ⟨g1, g2, g3, hk.up (fun q _ hq => by rw [hs] at hq; cases hq) (fun q hq ht => by rw [hs] at hq; cases hq; exact absurd (show 2 ≤ _ from ht) (Nat.not_le_of_lt (Nat.le_of_ble_eq_true rfl)))⟩ (fun v hv => hst v (List.mem_cons_of_mem _ (List.mem_cons_of_mem _ (List.mem_cons_of_mem _ hv))))
theorem am_qast_s (hx : p.tables.exec = Jvm.exec) (hb : c.code = cc) (hK : va_K G cl (am_ty dT) s) (hc1 : ∃ (T : u_T) (N : Nat), cl[1]? = some ("SeatDesk$Ride", T, N)) (hd : decode cc pc = .ok (.aastore, 1)) (h : am_astq sh st D a k) : am_SS p l e R s m args below meth c Qw nL (am_Rel G cl dT A H0 sh) pc 1 st D a k := by
  obtain ⟨v, r, rfl, h_1⟩ := am_p0_e h
  obtain ⟨j, r, rfl, h_2⟩ := am_p1_e h_1
  obtain ⟨o, r, rfl, h_3⟩ := am_p0_e h_2
  obtain ⟨y, rfl, h_4⟩ := am_n_e h_3
  obtain ⟨n, rfl, h0, h1, hn, h_5⟩ := am_n_e h_4
  obtain ⟨ks, hs1, h_6⟩ := am_ob_e h_5
  obtain ⟨z, hs, hin, h_7⟩ := am_ar_e h_6
  obtain ⟨T, N, hc1⟩ := hc1
  intro ρ H locs ls hsz hR hst kk
  obtain ⟨hP, hD, hS, hk⟩ := hR
  have hy : y < a.1 := hst _ List.mem_cons_self
  have he : (am_W sh dT ρ a.1 D)[n]? = some (ρ n, .inl (dT 2, z, .inr (.inr (.inr (.inr fun j => (am_o (am_rf (D n j))).map ρ))))) := by rw [am_W_at hn, hs]; rfl
  have hv : (am_W sh dT ρ a.1 D)[y]? = some (ρ y, .inr (1, ks.mapIdx fun i k => am_v ρ (am_va k (D y i)))) := by rw [am_W_at hy, hs1]; rfl
  have hset : (am_W sh dT ρ a.1 D).set n (ρ n, .inl (dT 2, z, .inr (.inr (.inr (.inr (va_up (fun j => (am_o (am_rf (D n j))).map ρ) j.toNatClampNeg (some (ρ y)))))))) = am_W sh dT ρ a.1 (am_up D n j.toNatClampNeg (Int32.ofNat y)) := by
    refine am_W_set hn ?_ (fun i hi => am_up_ne hi)
    rw [hs]
    have hf : va_up (fun j => (am_o (am_rf (D n j))).map ρ) j.toNatClampNeg (some (ρ y)) = (fun i => (am_o (am_rf (am_up D n j.toNatClampNeg (Int32.ofNat y) n i))).map ρ) := by
      funext i
      by_cases hi : i = j.toNatClampNeg
      · subst hi
        rw [va_up_self, am_up_same, am_rf_of h0 h1]
        rfl
      · rw [va_up_ne _ _ hi, show am_up D n j.toNatClampNeg (Int32.ofNat y) n i = D n i from if_neg (fun z => hi z.2)]
    rw [hf]
    rfl
  refine va_astq (r := ("SeatDesk$Ride", T, N)) hx hb hK hP hD hS n 2 y 1 he rfl hv hc1 hin hd (fun H1 locs1 g1 g2 g3 => ?_)
  rw [hset] at g1 g2
  exact kk _ _ a ρ H1 locs1 h_7 (Nat.le_refl _) (fun _ _ => rfl) ⟨g1, g2, g3, hk.up (fun q _ hq => by rw [hs] at hq; cases hq) (fun q hq ht => by rw [am_rf_of h0 h1]; exact hy)⟩ (fun v hv => hst v (List.mem_cons_of_mem _ (List.mem_cons_of_mem _ (List.mem_cons_of_mem _ hv))))
theorem am_alen_s (hx : p.tables.exec = Jvm.exec) (hb : c.code = cc) (hK : va_K G cl (am_ty dT) s) (hd : decode cc pc = .ok (.arraylength, 1)) (h : am_alen sh st D a k) : am_SS p l e R s m args below meth c Qw nL (am_Rel G cl dT A H0 sh) pc 1 st D a k := by
  obtain ⟨o, r, rfl, h_1⟩ := am_p0_e h
  obtain ⟨n, rfl, hn, h_2⟩ := am_n_e h_1
  obtain ⟨z, hs, h_3⟩ := am_ar_e h_2
  intro ρ H locs ls hsz hR hst kk
  obtain ⟨hP, hD, hS, hk⟩ := hR
  have he : (am_W sh dT ρ a.1 D)[n]? = some (ρ n, .inl (dT 0, z, .inl (D n))) := by rw [am_W_at hn, hs]; rfl
  exact va_alen hx hb hK hP n 0 he rfl rfl hd (kk _ D a ρ H locs h_3 (Nat.le_refl _) (fun _ _ => rfl) ⟨hP, hD, hS, hk⟩ (List.forall_mem_cons.mpr ⟨trivial, fun v hv => hst v (List.mem_cons_of_mem _ hv)⟩))
theorem am_new_s (hx : p.tables.exec = Jvm.exec) (hb : c.code = cc) (hts : ∀ w ∈ Ts, w.before args s = true) (hown : s.vm.findClass own = some m.cls) (hK : va_K G cl (am_ty dT) s) (hsc : am_SC cl sh) (hA : ∀ q, H0.size ≤ q → A q) {x ci RC RS : Nat} (hRC : RC = R.cells) (hRS : RS = R.slots) (hf : am_FN cl Ts own x ci) (hd : decode cc pc = .ok (.new x, 3)) (h : am_new sh RC RS ci st D a k) : am_SS p l e R s m args below meth c Qw nL (am_Rel G cl dT A H0 sh) pc 3 st D a k := by
  obtain ⟨ks, hs, hall, h1, h2, h_1⟩ := am_ob_e h
  subst hRC; subst hRS
  intro ρ H locs ls hsz hR hst kk
  obtain ⟨hP, hD, hS, hk⟩ := hR
  obtain ⟨C, T, N, hc, hin, w1, w2, w3⟩ := hf
  obtain ⟨C', T', N', ty, hc', hlen, hpd, hnm, hkt⟩ := hsc a.1 (ci, ks) hs
  have e9 : some (C, T, N) = some (C', T', N') := hc.symm.trans hc'
  cases e9
  dsimp only at hlen
  subst hlen
  have hle : ∀ k, k ∈ ks → k ≤ 2 := fun k hk => of_decide_eq_true (List.all_eq_true.mp hall k hk)
  refine va_new (ci := ci) (fs := ks.mapIdx fun _ k => am_va k 0) hx hb hts hin ty hpd hown (hts _ w1) (hts _ w2) (hts _ w3) hK hP hD hS hA hc (fun j hj => ?_) h1 h2 hd (fun q H1 g1 g2 g3 => ?_)
  · have hkj := am_kd hj
    have hle2 := hle _ (List.mem_of_getElem? hkj)
    have hkt2 := hkt j _ hkj
    unfold vp_V
    rw [List.getD_eq_getElem?_getD, List.getElem?_mapIdx, hkj]
    show defaultValue (ty j) = am_va _ 0
    generalize ks.getD j 0 = k0 at hle2 hkt2
    match k0, hle2, hkt2 with
    | 0, _, h => rw [show ty j = .int from h]; rfl
    | 1, _, h => rw [show ty j = .boolean from h]; rfl
    | 2, _, h =>
      have h : (ty j).isReference = true := h
      cases hq : ty j <;> rw [hq] at h <;> first | rfl | cases h
  · have hpush := am_W_push (dT := dT) (ρ := ρ) (q := q) (e := .inr (ci, ks.mapIdx fun _ k => am_va k 0)) hk (by
      rw [hs]
      show Sum.inr (ci, _) = Sum.inr (ci, _)
      congr 2
      apply List.ext_getElem?
      intro i
      rw [List.getElem?_mapIdx, List.getElem?_mapIdx]
      cases hki : ks[i]? with
      | none => rfl
      | some k1 => exact congrArg some (am_va_zero_v (hle k1 (List.mem_of_getElem? hki))).symm)
    rw [hpush] at g1 g2
    have hag : ∀ i, i < a.1 → va_up ρ a.1 q i = ρ i := fun i hi => va_up_ne ρ q (by omega)
    have hfin := kk _ _ _ (va_up ρ a.1 q) H1 locs h_1 (Nat.le_succ _) hag ⟨g1, g2, g3, hk.z (fun q' hq' => by rw [hs] at hq'; cases hq'; exact hall)⟩ (List.forall_mem_cons.mpr ⟨Nat.lt_succ_self _, fun v hv => am_okv_mono (Nat.le_succ _) (hst v hv)⟩)
    rw [List.map_cons, am_v_map hag hst] at hfin
    rw [show am_v (va_up ρ a.1 q) (.ref a.1) = .ref q from congrArg Value.ref (va_up_self ρ a.1 q)] at hfin
    exact hfin
theorem am_newa_s (hx : p.tables.exec = Jvm.exec) (hb : c.code = cc) (hK : va_K G cl (am_ty dT) s) (hA : ∀ q, H0.size ≤ q → A q) {t RC RS : Nat} {at' : ArrayType} (hat : (t = 0 ∧ at' = .int) ∨ (t = 1 ∧ at' = .boolean)) (harr : (Cond.arrayClass (newarray.typeOf at')).before args s = true) (hRC : RC = R.cells) (hRS : RS = R.slots) (hd : decode cc pc = .ok (.newarray at', 2)) (h : am_newa sh RC RS t st D a k) : am_SS p l e R s m args below meth c Qw nL (am_Rel G cl dT A H0 sh) pc 2 st D a k := by
  obtain ⟨n, r, rfl, h_1⟩ := am_p1_e h
  obtain ⟨z, hs, hz, hn0, hz2, h1, h2, h_2⟩ := am_ar_e h_1
  subst hRC; subst hRS
  have ht2 : t < 2 := by rcases hat with ⟨q, -⟩ | ⟨q, -⟩ <;> omega
  intro ρ H locs ls hsz hR hst kk
  obtain ⟨hP, hD, hS, hk⟩ := hR
  have hcb : z * componentBytes (newarray.typeOf at') ≤ 536870912 := by
    rcases hat with ⟨-, rfl⟩ | ⟨-, rfl⟩
    · show z * 4 ≤ _
      omega
    · show z * 1 ≤ _
      omega
  refine va_newa (a0 := (z, .inl fun _ => 0)) hx hb harr rfl hK hP hD hS hA (fun cA => ?_) hn0 hz.symm hcb h1 h2 hd (fun q cA H1 gK g1 g2 g3 => ?_)
  · rcases hat with ⟨-, rfl⟩ | ⟨-, rfl⟩ <;> exact vp_cell_i ..
  · have hcA : cA = dT t := by
      have r1 := (gK.2 4 (cA, newarray.typeOf at') rfl).2
      rcases hat with ⟨rfl, rfl⟩ | ⟨rfl, rfl⟩
      · have r2 := (hK.2 0 _ rfl).2
        exact Option.some.inj ((show s.vm.findClass _ = some cA from r1).symm.trans r2)
      · have r2 := (hK.2 1 _ rfl).2
        exact Option.some.inj ((show s.vm.findClass _ = some cA from r1).symm.trans r2)
    subst hcA
    have hpush := am_W_push (dT := dT) (ρ := ρ) (q := q) (e := .inl (dT t, z, .inl fun _ => 0)) hk (by
      rw [hs]
      show _ = Sum.inl (dT t, z, if t < 2 then _ else _)
      rw [if_pos ht2])
    rw [hpush] at g1 g2
    have hag : ∀ i, i < a.1 → va_up ρ a.1 q i = ρ i := fun i hi => va_up_ne ρ q (by omega)
    have hst' := fun v (hv : v ∈ r) => hst v (List.mem_cons_of_mem _ hv)
    have hfin := kk _ _ _ (va_up ρ a.1 q) H1 locs h_2 (Nat.le_succ _) hag ⟨g1, g2, g3, hk.z (fun q' hq' => by rw [hs] at hq'; cases hq')⟩ (List.forall_mem_cons.mpr ⟨Nat.lt_succ_self _, fun v hv => am_okv_mono (Nat.le_succ _) (hst' v hv)⟩)
    rw [List.map_cons, am_v_map hag hst'] at hfin
    rw [show am_v (va_up ρ a.1 q) (.ref a.1) = .ref q from congrArg Value.ref (va_up_self ρ a.1 q)] at hfin
    exact hfin
theorem am_newq_s (hx : p.tables.exec = Jvm.exec) (hb : c.code = cc) (hts : ∀ w ∈ Ts, w.before args s = true) (hown : s.vm.findClass own = some m.cls) (hK : va_K G cl (am_ty dT) s) (hA : ∀ q, H0.size ≤ q → A q) {x RC RS : Nat} (w1 : Cond.classLink own x "SeatDesk$Ride" ∈ Ts) (w2 : va_AO "SeatDesk$Ride" s) (hRC : RC = R.cells) (hRS : RS = R.slots) (hd : decode cc pc = .ok (.anewarray x, 3)) (h : am_newa sh RC RS 2 st D a k) : am_SS p l e R s m args below meth c Qw nL (am_Rel G cl dT A H0 sh) pc 3 st D a k := by
  obtain ⟨n, r, rfl, h_1⟩ := am_p1_e h
  obtain ⟨z, hs, hz, hn0, hz2, h1, h2, h_2⟩ := am_ar_e h_1
  subst hRC; subst hRS
  intro ρ H locs ls hsz hR hst kk
  obtain ⟨hP, hD, hS, hk⟩ := hR
  refine va_newq hx hb hown (hts _ w1) w2 hK hP hD hS hA hn0 hz.symm (by omega) h1 h2 hd (fun q cA H1 gK g1 g2 g3 => ?_)
  have hcA : cA = dT 2 := by
    obtain ⟨_, _, -, -, -, r1⟩ := (gK.2 4 (cA, .object "SeatDesk$Ride") rfl).2
    obtain ⟨_, _, -, -, -, r2⟩ := (hK.2 2 _ rfl).2
    exact Option.some.inj (r1.symm.trans r2)
  subst hcA
  have hpush := am_W_push (dT := dT) (ρ := ρ) (q := q) (e := .inl (dT 2, z, .inr (.inr (.inr (.inr fun _ => none))))) hk (by
    rw [hs]
    rfl)
  rw [hpush] at g1 g2
  have hag : ∀ i, i < a.1 → va_up ρ a.1 q i = ρ i := fun i hi => va_up_ne ρ q (by omega)
  have hst' := fun v (hv : v ∈ r) => hst v (List.mem_cons_of_mem _ hv)
  have hfin := kk _ _ _ (va_up ρ a.1 q) H1 locs h_2 (Nat.le_succ _) hag ⟨g1, g2, g3, hk.z (fun q' hq' => by rw [hs] at hq'; cases hq')⟩ (List.forall_mem_cons.mpr ⟨Nat.lt_succ_self _, fun v hv => am_okv_mono (Nat.le_succ _) (hst' v hv)⟩)
  rw [List.map_cons, am_v_map hag hst'] at hfin
  rw [show am_v (va_up ρ a.1 q) (.ref a.1) = .ref q from congrArg Value.ref (va_up_self ρ a.1 q)] at hfin
  exact hfin
end AMQ
