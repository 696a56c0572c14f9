/-! ===== an abstract machine: names for cells, contents as ints by name and slot; what an instruction asks ===== -/
abbrev am_D : Type := Nat → Nat → Int32
abbrev am_A : Type := Nat × Nat × Nat
abbrev am_K : Type := Nat → List Value → List Value → am_D → am_A → Prop
abbrev am_R : Type := Option Value → am_D → am_A → Prop
abbrev am_M : Type := Instr → List Value → am_D → am_A → (List Value → am_D → am_A → Prop) → Prop
abbrev am_u : Value := .retAddr 0
def am_i (v : Value) (k : Int32 → Prop) : Prop := match v with
  | .int x => k x
  | _ => False
def am_r (v : Value) (k : Prop) : Prop := match v with
  | .ref _ => k
  | .null => k
  | _ => False
def am_p0 (st : List Value) (k : Value → List Value → Prop) : Prop := match st with
  | v :: r => k v r
  | [] => False
def am_p1 (st : List Value) (k : Int32 → List Value → Prop) : Prop := match st with
  | .int x :: r => k x r
  | _ => False
def am_p2 (st : List Value) (k : Int32 → Int32 → List Value → Prop) : Prop := match st with
  | .int y :: .int x :: r => k x y r
  | _ => False
/-- a jump -/
def am_j (pc : Nat) (off : Int) (K : Nat → Prop) : Prop := 0 ≤ (pc : Int) + off ∧ K ((pc : Int) + off).toNat
def am_ushr (x y : Int32) : Int32 := (x.toUInt32 >>> (y.toUInt32 &&& Int32.toUInt32 31)).toInt32
def am_cmp (cd : Jvm.ClassFile.Cond) (x y : Int32) : Prop := match cd with
  | .eq => x = y
  | .ne => ¬ x = y
  | .lt => x < y
  | .ge => y ≤ x
  | .gt => y < x
  | .le => x ≤ y
def am_b (pc : Nat) (off : Int) (T : Prop) (A : Nat → Prop) (B : Prop) : Prop := 0 ≤ (pc : Int) + off ∧ (T → A ((pc : Int) + off).toNat) ∧ (¬ T → B)
def am_st (L : List Value) (j : Nat) (v : Value) (k : List Value → Prop) : Prop := j < L.length ∧ k (L.set j v)
/-- what one instruction asks; K: what holds at the target of a jump, Q: what at a return, k: what behind it; E: the instructions on memory -/
def am_s (E : am_M) (K : am_K) (Q : am_R) (i : Instr) (pc : Nat) (L st : List Value) (D : am_D) (a : am_A) (k : List Value → List Value → am_D → am_A → Prop) : Prop := match i with
  | .iconst n => k L (.int (Int32.ofInt n) :: st) D a
  | .bipush n => k L (.int (Int8.ofInt n).toInt32 :: st) D a
  | .sipush n => k L (.int (Int16.ofInt n).toInt32 :: st) D a
  | .aconst_null => k L (.null :: st) D a
  | .iload j => am_i (L.getD j am_u) fun x => k L (.int x :: st) D a
  | .iload_n j => am_i (L.getD j.val am_u) fun x => k L (.int x :: st) D a
  | .aload j => am_r (L.getD j am_u) (k L (L.getD j am_u :: st) D a)
  | .aload_n j => am_r (L.getD j.val am_u) (k L (L.getD j.val am_u :: st) D a)
  | .istore j => am_p1 st fun x r => am_st L j (.int x) fun L => k L r D a
  | .istore_n j => am_p1 st fun x r => am_st L j.val (.int x) fun L => k L r D a
  | .astore j => am_p0 st fun v r => am_r v (am_st L j v fun L => k L r D a)
  | .astore_n j => am_p0 st fun v r => am_r v (am_st L j.val v fun L => k L r D a)
  | .iinc j n => am_i (L.getD j am_u) fun x => am_st L j (.int (x + Int32.ofInt n)) fun L => k L st D a
  | .iadd => am_p2 st fun x y r => k L (.int (x + y) :: r) D a
  | .isub => am_p2 st fun x y r => k L (.int (x - y) :: r) D a
  | .imul => am_p2 st fun x y r => k L (.int (x * y) :: r) D a
  | .iand => am_p2 st fun x y r => k L (.int (x &&& y) :: r) D a
  | .ior => am_p2 st fun x y r => k L (.int (x ||| y) :: r) D a
  | .ixor => am_p2 st fun x y r => k L (.int (x ^^^ y) :: r) D a
  | .ishl => am_p2 st fun x y r => k L (.int (x <<< (y &&& 31)) :: r) D a
  | .iushr => am_p2 st fun x y r => k L (.int (am_ushr x y) :: r) D a
  | .ineg => am_p1 st fun x r => k L (.int (-x) :: r) D a
  | .dup => am_p0 st fun v r => k L (v :: v :: r) D a
  | .pop => am_p0 st fun _ r => k L r D a
  | .dup2 => am_p0 st fun v r => am_p0 r fun w r => k L (v :: w :: v :: w :: r) D a
  | .goto o => am_j pc o fun t => K t L st D a
  | .ifCond cd o => am_p1 st fun x r => am_b pc o (am_cmp cd x 0) (fun t => K t L r D a) (k L r D a)
  | .if_icmp cd o => am_p2 st fun x y r => am_b pc o (am_cmp cd x y) (fun t => K t L r D a) (k L r D a)
  | .ifnull o => am_p0 st fun v r => am_r v (am_b pc o (v = .null) (fun t => K t L r D a) (k L r D a))
  | .ifnonnull o => am_p0 st fun v r => am_r v (am_b pc o (¬ v = .null) (fun t => K t L r D a) (k L r D a))
  | .if_acmp .eq o => am_p0 st fun v r => am_p0 r fun w r => am_r v (am_r w (am_b pc o (w = v) (fun t => K t L r D a) (k L r D a)))
  | .if_acmp .ne o => am_p0 st fun v r => am_p0 r fun w r => am_r v (am_r w (am_b pc o (¬ w = v) (fun t => K t L r D a) (k L r D a)))
  | .tableswitch d lo hi os => am_p1 st fun x r => am_b pc d (x.toInt < lo ∨ hi < x.toInt) (fun t => K t L r D a) (am_j pc (os.getD (x.toInt - lo).toNat d) fun t => (x.toInt - lo).toNat < os.size ∧ K t L r D a)
  | .ireturn => am_p1 st fun x r => r = [] ∧ Q (some (.int x)) D a
  | .areturn => am_p0 st fun v r => am_r v (r = [] ∧ Q (some v) D a)
  | .return_ => st = [] ∧ Q none D a
  | i => E i st D a (fun st D a => k L st D a)
def am_w (E : am_M) (K : am_K) (Q : am_R) : List (Instr × Nat) → Nat → List Value → List Value → am_D → am_A → Prop
  | [], pc, L, st, D, a => K pc L st D a
  | i :: r, pc, L, st, D, a => am_s E K Q i.1 pc L st D a (fun L st D a => am_w E K Q r (pc + i.2) L st D a)
/-- K is closed under the code's blocks -/
def am_C (E : am_M) (bs : List (Nat × List (Instr × Nat))) (K : am_K) (Q : am_R) : Prop := ∀ b ∈ bs, ∀ (L st : List Value) (D : am_D) (a : am_A), am_w E K Q b.2 b.1 L st D a → K b.1 L st D a
def am_ok (cc : ByteArray) : List (Instr × Nat) → Nat → Bool
  | [], _ => true
  | i :: r, pc => decide (decode cc pc = .ok i) && am_ok cc r (pc + i.2)
def am_oks (cc : ByteArray) (bs : List (Nat × List (Instr × Nat))) : Bool := bs.all fun b => am_ok cc b.2 b.1
section AMR
variable {E : am_M} {K : am_K} {Q : am_R} {pc : Nat} {L st : List Value} {D : am_D} {a : am_A} {k : List Value → List Value → am_D → am_A → Prop}
theorem am_w_nil : am_w E K Q [] pc L st D a = K pc L st D a := rfl
theorem am_w_cons {i : Instr} {n : Nat} {r : List (Instr × Nat)} : am_w E K Q ((i, n) :: r) pc L st D a = am_s E K Q i pc L st D a (fun L st D a => am_w E K Q r (pc + n) L st D a) := rfl
theorem am_s_iconst_n {n : Int} : am_s E K Q (.iconst n) pc L st D a k = (k L (.int (Int32.ofInt n) :: st) D a) := rfl
theorem am_s_bipush_n {n : Int} : am_s E K Q (.bipush n) pc L st D a k = (k L (.int (Int8.ofInt n).toInt32 :: st) D a) := rfl
theorem am_s_sipush_n {n : Int} : am_s E K Q (.sipush n) pc L st D a k = (k L (.int (Int16.ofInt n).toInt32 :: st) D a) := rfl
theorem am_s_aconst_null : am_s E K Q (.aconst_null) pc L st D a k = (k L (.null :: st) D a) := rfl
theorem am_s_iload_j {j : Nat} : am_s E K Q (.iload j) pc L st D a k = (am_i (L.getD j am_u) fun x => k L (.int x :: st) D a) := rfl
theorem am_s_iload_n_j {j : Fin 4} : am_s E K Q (.iload_n j) pc L st D a k = (am_i (L.getD j.val am_u) fun x => k L (.int x :: st) D a) := rfl
theorem am_s_aload_j {j : Nat} : am_s E K Q (.aload j) pc L st D a k = (am_r (L.getD j am_u) (k L (L.getD j am_u :: st) D a)) := rfl
theorem am_s_aload_n_j {j : Fin 4} : am_s E K Q (.aload_n j) pc L st D a k = (am_r (L.getD j.val am_u) (k L (L.getD j.val am_u :: st) D a)) := rfl
theorem am_s_istore_j {j : Nat} : am_s E K Q (.istore j) pc L st D a k = (am_p1 st fun x r => am_st L j (.int x) fun L => k L r D a) := rfl
theorem am_s_istore_n_j {j : Fin 4} : am_s E K Q (.istore_n j) pc L st D a k = (am_p1 st fun x r => am_st L j.val (.int x) fun L => k L r D a) := rfl
theorem am_s_astore_j {j : Nat} : am_s E K Q (.astore j) pc L st D a k = (am_p0 st fun v r => am_r v (am_st L j v fun L => k L r D a)) := rfl
theorem am_s_astore_n_j {j : Fin 4} : am_s E K Q (.astore_n j) pc L st D a k = (am_p0 st fun v r => am_r v (am_st L j.val v fun L => k L r D a)) := rfl
theorem am_s_iinc_j_n {j : Nat} {n : Int} : am_s E K Q (.iinc j n) pc L st D a k = (am_i (L.getD j am_u) fun x => am_st L j (.int (x + Int32.ofInt n)) fun L => k L st D a) := rfl
theorem am_s_iadd : am_s E K Q (.iadd) pc L st D a k = (am_p2 st fun x y r => k L (.int (x + y) :: r) D a) := rfl
theorem am_s_isub : am_s E K Q (.isub) pc L st D a k = (am_p2 st fun x y r => k L (.int (x - y) :: r) D a) := rfl
theorem am_s_imul : am_s E K Q (.imul) pc L st D a k = (am_p2 st fun x y r => k L (.int (x * y) :: r) D a) := rfl
theorem am_s_iand : am_s E K Q (.iand) pc L st D a k = (am_p2 st fun x y r => k L (.int (x &&& y) :: r) D a) := rfl
theorem am_s_ior : am_s E K Q (.ior) pc L st D a k = (am_p2 st fun x y r => k L (.int (x ||| y) :: r) D a) := rfl
theorem am_s_ixor : am_s E K Q (.ixor) pc L st D a k = (am_p2 st fun x y r => k L (.int (x ^^^ y) :: r) D a) := rfl
theorem am_s_ishl : am_s E K Q (.ishl) pc L st D a k = (am_p2 st fun x y r => k L (.int (x <<< (y &&& 31)) :: r) D a) := rfl
theorem am_s_iushr : am_s E K Q (.iushr) pc L st D a k = (am_p2 st fun x y r => k L (.int (am_ushr x y) :: r) D a) := rfl
theorem am_s_ineg : am_s E K Q (.ineg) pc L st D a k = (am_p1 st fun x r => k L (.int (-x) :: r) D a) := rfl
theorem am_s_dup : am_s E K Q (.dup) pc L st D a k = (am_p0 st fun v r => k L (v :: v :: r) D a) := rfl
theorem am_s_pop : am_s E K Q (.pop) pc L st D a k = (am_p0 st fun _ r => k L r D a) := rfl
theorem am_s_dup2 : am_s E K Q (.dup2) pc L st D a k = (am_p0 st fun v r => am_p0 r fun w r => k L (v :: w :: v :: w :: r) D a) := rfl
theorem am_s_goto_o {o : Int} : am_s E K Q (.goto o) pc L st D a k = (am_j pc o fun t => K t L st D a) := rfl
theorem am_s_ifCond_cd_o {cd : Jvm.ClassFile.Cond} {o : Int} : am_s E K Q (.ifCond cd o) pc L st D a k = (am_p1 st fun x r => am_b pc o (am_cmp cd x 0) (fun t => K t L r D a) (k L r D a)) := rfl
theorem am_s_if_icmp_cd_o {cd : Jvm.ClassFile.Cond} {o : Int} : am_s E K Q (.if_icmp cd o) pc L st D a k = (am_p2 st fun x y r => am_b pc o (am_cmp cd x y) (fun t => K t L r D a) (k L r D a)) := rfl
theorem am_s_ifnull_o {o : Int} : am_s E K Q (.ifnull o) pc L st D a k = (am_p0 st fun v r => am_r v (am_b pc o (v = .null) (fun t => K t L r D a) (k L r D a))) := rfl
theorem am_s_ifnonnull_o {o : Int} : am_s E K Q (.ifnonnull o) pc L st D a k = (am_p0 st fun v r => am_r v (am_b pc o (¬ v = .null) (fun t => K t L r D a) (k L r D a))) := rfl
theorem am_s_if_acmp_eq_o {o : Int} : am_s E K Q (.if_acmp .eq o) pc L st D a k = (am_p0 st fun v r => am_p0 r fun w r => am_r v (am_r w (am_b pc o (w = v) (fun t => K t L r D a) (k L r D a)))) := rfl
theorem am_s_if_acmp_ne_o {o : Int} : am_s E K Q (.if_acmp .ne o) pc L st D a k = (am_p0 st fun v r => am_p0 r fun w r => am_r v (am_r w (am_b pc o (¬ w = v) (fun t => K t L r D a) (k L r D a)))) := rfl
theorem am_s_tableswitch_d_lo_hi_os {d : Int} {lo : Int} {hi : Int} {os : Array Int} : am_s E K Q (.tableswitch d lo hi os) pc L st D a k = (am_p1 st fun x r => am_b pc d (x.toInt < lo ∨ hi < x.toInt) (fun t => K t L r D a) (am_j pc (os.getD (x.toInt - lo).toNat d) fun t => (x.toInt - lo).toNat < os.size ∧ K t L r D a)) := rfl
theorem am_s_ireturn : am_s E K Q (.ireturn) pc L st D a k = (am_p1 st fun x r => r = [] ∧ Q (some (.int x)) D a) := rfl
theorem am_s_areturn : am_s E K Q (.areturn) pc L st D a k = (am_p0 st fun v r => am_r v (r = [] ∧ Q (some v) D a)) := rfl
theorem am_s_return_ : am_s E K Q (.return_) pc L st D a k = (st = [] ∧ Q none D a) := rfl
theorem am_s_getfield {x : Nat} : am_s E K Q (.getfield x) pc L st D a k = E (.getfield x) st D a (fun st D a => k L st D a) := rfl
theorem am_s_putfield {x : Nat} : am_s E K Q (.putfield x) pc L st D a k = E (.putfield x) st D a (fun st D a => k L st D a) := rfl
theorem am_s_iaload : am_s E K Q (.iaload) pc L st D a k = E (.iaload) st D a (fun st D a => k L st D a) := rfl
theorem am_s_iastore : am_s E K Q (.iastore) pc L st D a k = E (.iastore) st D a (fun st D a => k L st D a) := rfl
theorem am_s_baload : am_s E K Q (.baload) pc L st D a k = E (.baload) st D a (fun st D a => k L st D a) := rfl
theorem am_s_bastore : am_s E K Q (.bastore) pc L st D a k = E (.bastore) st D a (fun st D a => k L st D a) := rfl
theorem am_s_aaload : am_s E K Q (.aaload) pc L st D a k = E (.aaload) st D a (fun st D a => k L st D a) := rfl
theorem am_s_aastore : am_s E K Q (.aastore) pc L st D a k = E (.aastore) st D a (fun st D a => k L st D a) := rfl
theorem am_s_arraylength : am_s E K Q (.arraylength) pc L st D a k = E (.arraylength) st D a (fun st D a => k L st D a) := rfl
theorem am_s_new {x : Nat} : am_s E K Q (.new x) pc L st D a k = E (.new x) st D a (fun st D a => k L st D a) := rfl
theorem am_s_newarray {t : ArrayType} : am_s E K Q (.newarray t) pc L st D a k = E (.newarray t) st D a (fun st D a => k L st D a) := rfl
theorem am_s_anewarray {x : Nat} : am_s E K Q (.anewarray x) pc L st D a k = E (.anewarray x) st D a (fun st D a => k L st D a) := rfl
theorem am_s_multianewarray {x : Nat} {y : Nat} : am_s E K Q (.multianewarray x y) pc L st D a k = E (.multianewarray x y) st D a (fun st D a => k L st D a) := rfl
theorem am_s_invokevirtual {x : Nat} : am_s E K Q (.invokevirtual x) pc L st D a k = E (.invokevirtual x) st D a (fun st D a => k L st D a) := rfl
theorem am_s_invokespecial {x : Nat} : am_s E K Q (.invokespecial x) pc L st D a k = E (.invokespecial x) st D a (fun st D a => k L st D a) := rfl
theorem am_s_invokestatic {x : Nat} : am_s E K Q (.invokestatic x) pc L st D a k = E (.invokestatic x) st D a (fun st D a => k L st D a) := rfl
theorem am_s_ldc_w {x : Nat} : am_s E K Q (.ldc_w x) pc L st D a k = E (.ldc_w x) st D a (fun st D a => k L st D a) := rfl
theorem am_i_int {x : Int32} {k : Int32 → Prop} : am_i (.int x) k = k x := rfl
theorem am_r_ref {n : Nat} {k : Prop} : am_r (.ref n) k = k := rfl
theorem am_r_null {k : Prop} : am_r .null k = k := rfl
theorem am_p0_c {v : Value} {r : List Value} {k : Value → List Value → Prop} : am_p0 (v :: r) k = k v r := rfl
theorem am_p1_c {x : Int32} {r : List Value} {k : Int32 → List Value → Prop} : am_p1 (.int x :: r) k = k x r := rfl
theorem am_p2_c {x y : Int32} {r : List Value} {k : Int32 → Int32 → List Value → Prop} : am_p2 (.int y :: .int x :: r) k = k x y r := rfl
theorem am_i_e {v : Value} {k : Int32 → Prop} (h : am_i v k) : ∃ x, v = .int x ∧ k x := by
  cases v <;> first | exact ⟨_, rfl, h⟩ | exact h.elim
theorem am_r_e {v : Value} {k : Prop} (h : am_r v k) : ((∃ n, v = .ref n) ∨ v = .null) ∧ k := by
  cases v <;> first | exact ⟨Or.inl ⟨_, rfl⟩, h⟩ | exact ⟨Or.inr rfl, h⟩ | exact h.elim
theorem am_p0_e {st : List Value} {k : Value → List Value → Prop} (h : am_p0 st k) : ∃ v r, st = v :: r ∧ k v r := by
  cases st with
  | nil => exact h.elim
  | cons v r => exact ⟨v, r, rfl, h⟩
theorem am_p1_e {st : List Value} {k : Int32 → List Value → Prop} (h : am_p1 st k) : ∃ x r, st = .int x :: r ∧ k x r := by
  cases st with
  | nil => exact h.elim
  | cons v r => cases v <;> first | exact ⟨_, _, rfl, h⟩ | exact h.elim
theorem am_p2_e {st : List Value} {k : Int32 → Int32 → List Value → Prop} (h : am_p2 st k) : ∃ x y r, st = .int y :: .int x :: r ∧ k x y r := by
  cases st with
  | nil => exact h.elim
  | cons v r =>
    cases v with
    | int y =>
      cases r with
      | nil => exact h.elim
      | cons w r => cases w <;> first | exact ⟨_, _, _, rfl, h⟩ | exact h.elim
    | _ => exact h.elim
end AMR
