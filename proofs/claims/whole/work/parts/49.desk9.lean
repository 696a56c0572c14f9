/-! ===== the desk: its queue ===== -/
def dCp (D : am_D) (x y : Nat) : am_D := fun n j => if n = y ∧ j < 80 then D x j else D n j
def am_copy (sh : Nat → am_Sh) (st : List Value) (D : am_D) (a : am_A) (k : List Value → am_D → am_A → Prop) : Prop := ∃ x y, st = [.int 80, .int 0, .ref y, .int 0, .ref x] ∧ x < a.1 ∧ y < a.1 ∧ sh x = .inr (0, 80) ∧ sh y = .inr (0, 80) ∧ k [] (dCp D x y) a
theorem am_copy_s {p : Program} {l : Launch} {e : Env} {R : Room} {s : State} {m : MethodId} {args : Array Value} {below : List Frame} {meth : Method} {c : Code} {Qw : State → Prop} {cc : ByteArray} {nL : Nat} {G : va_G} {cl : List vw_C} {dT : Nat → ClassId} {A : Nat → Prop} {H0 : Heap} {sh : Nat → am_Sh} {own : String} {pc x : Nat} {st : List Value} {D : am_D} {a : am_A} {k : List Value → am_D → am_A → Prop} (hx : p.tables.exec = Jvm.exec) (hb : c.code = cc) (hml : c.maxLocals = nL) (hown : s.vm.findClass own = some m.cls) (hlink : (Cond.methodLink own x arraycopyName).before args s = true) (hnat : (Cond.native arraycopyName).before args s = true) (hstat : (Cond.static arraycopyName).before args s = true) (hini : (Cond.initialized "java/lang/System").before args s = true) (hK : va_K G cl (am_ty dT) s) (hf : 1 ≤ R.frames) (hl : nativeFrameWords "java/lang/System" "arraycopy" 5 + 11 ≤ R.locals) (hd : decode cc pc = .ok (.invokestatic x, 3)) (h : am_copy sh st D a k) : am_SS p l e R s m args below meth c Qw nL (am_Rel G cl dT A H0 sh) pc 3 st D a k := by
  obtain ⟨u, v, rfl, hu, hv, su, sv, h⟩ := h
  intro ρ H locs ls hsz hR hst kk
  obtain ⟨hP, hD, hS, hk⟩ := hR
  have he0 : (am_W sh dT ρ a.1 D)[u]? = some (ρ u, .inl (dT 0, 80, .inl (D u))) := by rw [am_W_at hu, su]; rfl
  have he1 : (am_W sh dT ρ a.1 D)[v]? = some (ρ v, .inl (dT 0, 80, .inl (D v))) := by rw [am_W_at hv, sv]; rfl
  have c80 : (80 : Int32).toNatClampNeg = 80 := by decide
  have c0 : (0 : Int32).toNatClampNeg = 0 := by decide
  have hset : (am_W sh dT ρ a.1 D).set v (ρ v, .inl (dT 0, 80, .inl (va_cpy (D u) (D v) (0 : Int32).toNatClampNeg (0 : Int32).toNatClampNeg (80 : Int32).toNatClampNeg))) = am_W sh dT ρ a.1 (dCp D u v) := by
    refine am_W_set hv ?_ (fun i hi => funext fun j => if_neg (fun z => hi z.1))
    rw [sv, c80, c0]
    show _ = Sum.inl (dT 0, 80, Sum.inl (dCp D u v v))
    congr 4
    funext j
    unfold va_cpy dCp
    by_cases hj : j < 80
    · rw [if_pos ⟨Nat.zero_le _, by omega⟩, if_pos ⟨rfl, hj⟩, Nat.zero_add, Nat.sub_zero]
    · rw [if_neg (fun z => hj (by omega)), if_neg (fun z => hj z.2)]
  refine va_copyi hx hb (hml.trans hsz.symm) hown hlink hnat hstat hini hK hP hD hS u v 0 0 he0 he1 rfl rfl rfl (by decide) (by decide) (by decide) (by decide) (by decide) (fun i _ => rfl) hf (by simpa using hl) hd (fun H1 locs1 g1 g2 g3 => ?_)
  rw [hset] at g1 g2
  refine kk [] _ a ρ H1 locs1 h (Nat.le_refl _) (fun _ _ => rfl) ⟨g1, g2, g3, ?_⟩ (fun v hv => by cases hv)
  constructor
  · intro n q i k' hn hs hq
    rw [show dCp D u v n i = D n i from if_neg (fun z => by rw [z.1, sv] at hs; cases hs)]
    exact hk.1 n q i k' hn hs hq
  · intro n q i hn hs ht
    rw [show dCp D u v n i = D n i from if_neg (fun z => by rw [z.1, sv] at hs; cases hs; exact absurd (show 2 ≤ _ from ht) (Nat.not_le_of_lt (Nat.le_of_ble_eq_true rfl)))]
    exact hk.2 n q i hn hs ht
