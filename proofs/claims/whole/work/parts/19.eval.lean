/-! ===== rows by which a block is walked ===== -/
def am_lk : List (Nat × List (Instr × Nat)) → Nat → Option (List (Instr × Nat))
  | [], _ => none
  | b :: r, pc => if b.1 = pc then some b.2 else am_lk r pc
theorem am_lk_mem : ∀ {bs : List (Nat × List (Instr × Nat))} {pc : Nat} {is : List (Instr × Nat)}, am_lk bs pc = some is → (pc, is) ∈ bs
  | [], _, _, h => by cases h
  | b :: r, pc, is, h => by
    unfold am_lk at h
    split at h
    · rename_i hb
      cases h
      subst hb
      exact List.mem_cons_self
    · exact List.mem_cons_of_mem _ (am_lk_mem h)
theorem am_at {E : am_M} {bs : List (Nat × List (Instr × Nat))} {K : am_K} {Q : am_R} (hC : am_C E bs K Q) {pc : Nat} {is : List (Instr × Nat)} {L st : List Value} {D : am_D} {a : am_A} (hl : am_lk bs pc = some is) (h : am_w E K Q is pc L st D a) : K pc L st D a := hC (pc, is) (am_lk_mem hl) L st D a h
theorem am_nr {α : Type} {x y : α} (h : x = y) : x = y := h
/-- the name of ride i, and of its places -/
def sd_rn (i : Nat) : Nat := 2 * i + 21
def sd_pn (i : Nat) : Nat := 2 * i + 22
theorem sd_sh_rn {L i : Nat} : sd_sh L (sd_rn i) = .inl (1, [0, 2, 0, 0, 0, 0, 0, 1]) := by
  show (if (2 * i) % 2 = 0 then _ else _) = _
  rw [if_pos (by omega)]
theorem sd_sh_pn {L i : Nat} : sd_sh L (sd_pn i) = .inr (0, L) := by
  show (if (2 * i + 1) % 2 = 0 then _ else _) = _
  rw [if_neg (by omega)]
section AME
variable {E : am_M} {K : am_K} {Q : am_R} {pc n : Nat} {r : List (Instr × Nat)} {L st : List Value} {D : am_D} {a : am_A}
variable {sh : Nat → am_Sh} {RC RS : Nat} {fl : Nat → Nat × Nat} {nw : Nat → Nat} {cal : am_M} {kk : List Value → am_D → am_A → Prop}
theorem ae_nil  : (am_w E K Q [] pc L st D a) = (K pc L st D a) := am_nr rfl
theorem ae_iconst {c : Int} : (am_w E K Q ((.iconst c, n) :: r) pc (L) (st) D a) = (am_w E K Q r (pc + n) (L) (.int (Int32.ofInt c) :: st) D a) := am_nr rfl
theorem ae_bipush {c : Int} : (am_w E K Q ((.bipush c, n) :: r) pc (L) (st) D a) = (am_w E K Q r (pc + n) (L) (.int (Int8.ofInt c).toInt32 :: st) D a) := am_nr rfl
theorem ae_sipush {c : Int} : (am_w E K Q ((.sipush c, n) :: r) pc (L) (st) D a) = (am_w E K Q r (pc + n) (L) (.int (Int16.ofInt c).toInt32 :: st) D a) := am_nr rfl
theorem ae_null  : (am_w E K Q ((.aconst_null, n) :: r) pc (L) (st) D a) = (am_w E K Q r (pc + n) (L) (.null :: st) D a) := am_nr rfl
theorem ae_iload_0 {lr : List Value} {x : Int32} : (am_w E K Q ((.iload_n 0, n) :: r) pc (.int x :: lr) (st) D a) = (am_w E K Q r (pc + n) (.int x :: lr) (.int x :: st) D a) := am_nr rfl
theorem ae_aload_0 {lr : List Value} {x : Nat} : (am_w E K Q ((.aload_n 0, n) :: r) pc (.ref x :: lr) (st) D a) = (am_w E K Q r (pc + n) (.ref x :: lr) (.ref x :: st) D a) := am_nr rfl
theorem ae_aloadN_0 {lr : List Value} : (am_w E K Q ((.aload_n 0, n) :: r) pc (.null :: lr) (st) D a) = (am_w E K Q r (pc + n) (.null :: lr) (.null :: st) D a) := am_nr rfl
theorem ae_istore_0 {lr : List Value} {v : Value} {x : Int32} : (am_w E K Q ((.istore_n 0, n) :: r) pc (v :: lr) (.int x :: st) D a) = (am_w E K Q r (pc + n) (.int x :: lr) (st) D a) := am_nr (propext ⟨fun h => (show _ ∧ _ from h).2, fun h => ⟨(by show 0 < (_ : List Value).length; simp only [List.length_cons]; omega), h⟩⟩)
theorem ae_astore_0 {lr : List Value} {v : Value} {x : Nat} : (am_w E K Q ((.astore_n 0, n) :: r) pc (v :: lr) (.ref x :: st) D a) = (am_w E K Q r (pc + n) (.ref x :: lr) (st) D a) := am_nr (propext ⟨fun h => (show _ ∧ _ from h).2, fun h => ⟨(by show 0 < (_ : List Value).length; simp only [List.length_cons]; omega), h⟩⟩)
theorem ae_astoreN_0 {lr : List Value} {v : Value} : (am_w E K Q ((.astore_n 0, n) :: r) pc (v :: lr) (.null :: st) D a) = (am_w E K Q r (pc + n) (.null :: lr) (st) D a) := am_nr (propext ⟨fun h => (show _ ∧ _ from h).2, fun h => ⟨(by show 0 < (_ : List Value).length; simp only [List.length_cons]; omega), h⟩⟩)
theorem ae_iinc_0 {lr : List Value} {x : Int32} {c : Int} : (am_w E K Q ((.iinc 0 c, n) :: r) pc (.int x :: lr) (st) D a) = (am_w E K Q r (pc + n) (.int (x + Int32.ofInt c) :: lr) (st) D a) := am_nr (propext ⟨fun h => (show _ ∧ _ from h).2, fun h => ⟨(by show 0 < (_ : List Value).length; simp only [List.length_cons]; omega), h⟩⟩)
theorem ae_iload_1 {v0 : Value} {lr : List Value} {x : Int32} : (am_w E K Q ((.iload_n 1, n) :: r) pc (v0 :: .int x :: lr) (st) D a) = (am_w E K Q r (pc + n) (v0 :: .int x :: lr) (.int x :: st) D a) := am_nr rfl
theorem ae_aload_1 {v0 : Value} {lr : List Value} {x : Nat} : (am_w E K Q ((.aload_n 1, n) :: r) pc (v0 :: .ref x :: lr) (st) D a) = (am_w E K Q r (pc + n) (v0 :: .ref x :: lr) (.ref x :: st) D a) := am_nr rfl
theorem ae_aloadN_1 {v0 : Value} {lr : List Value} : (am_w E K Q ((.aload_n 1, n) :: r) pc (v0 :: .null :: lr) (st) D a) = (am_w E K Q r (pc + n) (v0 :: .null :: lr) (.null :: st) D a) := am_nr rfl
theorem ae_istore_1 {v0 : Value} {lr : List Value} {v : Value} {x : Int32} : (am_w E K Q ((.istore_n 1, n) :: r) pc (v0 :: v :: lr) (.int x :: st) D a) = (am_w E K Q r (pc + n) (v0 :: .int x :: lr) (st) D a) := am_nr (propext ⟨fun h => (show _ ∧ _ from h).2, fun h => ⟨(by show 1 < (_ : List Value).length; simp only [List.length_cons]; omega), h⟩⟩)
theorem ae_astore_1 {v0 : Value} {lr : List Value} {v : Value} {x : Nat} : (am_w E K Q ((.astore_n 1, n) :: r) pc (v0 :: v :: lr) (.ref x :: st) D a) = (am_w E K Q r (pc + n) (v0 :: .ref x :: lr) (st) D a) := am_nr (propext ⟨fun h => (show _ ∧ _ from h).2, fun h => ⟨(by show 1 < (_ : List Value).length; simp only [List.length_cons]; omega), h⟩⟩)
theorem ae_astoreN_1 {v0 : Value} {lr : List Value} {v : Value} : (am_w E K Q ((.astore_n 1, n) :: r) pc (v0 :: v :: lr) (.null :: st) D a) = (am_w E K Q r (pc + n) (v0 :: .null :: lr) (st) D a) := am_nr (propext ⟨fun h => (show _ ∧ _ from h).2, fun h => ⟨(by show 1 < (_ : List Value).length; simp only [List.length_cons]; omega), h⟩⟩)
theorem ae_iinc_1 {v0 : Value} {lr : List Value} {x : Int32} {c : Int} : (am_w E K Q ((.iinc 1 c, n) :: r) pc (v0 :: .int x :: lr) (st) D a) = (am_w E K Q r (pc + n) (v0 :: .int (x + Int32.ofInt c) :: lr) (st) D a) := am_nr (propext ⟨fun h => (show _ ∧ _ from h).2, fun h => ⟨(by show 1 < (_ : List Value).length; simp only [List.length_cons]; omega), h⟩⟩)
theorem ae_iload_2 {v0 v1 : Value} {lr : List Value} {x : Int32} : (am_w E K Q ((.iload_n 2, n) :: r) pc (v0 :: v1 :: .int x :: lr) (st) D a) = (am_w E K Q r (pc + n) (v0 :: v1 :: .int x :: lr) (.int x :: st) D a) := am_nr rfl
theorem ae_aload_2 {v0 v1 : Value} {lr : List Value} {x : Nat} : (am_w E K Q ((.aload_n 2, n) :: r) pc (v0 :: v1 :: .ref x :: lr) (st) D a) = (am_w E K Q r (pc + n) (v0 :: v1 :: .ref x :: lr) (.ref x :: st) D a) := am_nr rfl
theorem ae_aloadN_2 {v0 v1 : Value} {lr : List Value} : (am_w E K Q ((.aload_n 2, n) :: r) pc (v0 :: v1 :: .null :: lr) (st) D a) = (am_w E K Q r (pc + n) (v0 :: v1 :: .null :: lr) (.null :: st) D a) := am_nr rfl
theorem ae_istore_2 {v0 v1 : Value} {lr : List Value} {v : Value} {x : Int32} : (am_w E K Q ((.istore_n 2, n) :: r) pc (v0 :: v1 :: v :: lr) (.int x :: st) D a) = (am_w E K Q r (pc + n) (v0 :: v1 :: .int x :: lr) (st) D a) := am_nr (propext ⟨fun h => (show _ ∧ _ from h).2, fun h => ⟨(by show 2 < (_ : List Value).length; simp only [List.length_cons]; omega), h⟩⟩)
theorem ae_astore_2 {v0 v1 : Value} {lr : List Value} {v : Value} {x : Nat} : (am_w E K Q ((.astore_n 2, n) :: r) pc (v0 :: v1 :: v :: lr) (.ref x :: st) D a) = (am_w E K Q r (pc + n) (v0 :: v1 :: .ref x :: lr) (st) D a) := am_nr (propext ⟨fun h => (show _ ∧ _ from h).2, fun h => ⟨(by show 2 < (_ : List Value).length; simp only [List.length_cons]; omega), h⟩⟩)
theorem ae_astoreN_2 {v0 v1 : Value} {lr : List Value} {v : Value} : (am_w E K Q ((.astore_n 2, n) :: r) pc (v0 :: v1 :: v :: lr) (.null :: st) D a) = (am_w E K Q r (pc + n) (v0 :: v1 :: .null :: lr) (st) D a) := am_nr (propext ⟨fun h => (show _ ∧ _ from h).2, fun h => ⟨(by show 2 < (_ : List Value).length; simp only [List.length_cons]; omega), h⟩⟩)
theorem ae_iinc_2 {v0 v1 : Value} {lr : List Value} {x : Int32} {c : Int} : (am_w E K Q ((.iinc 2 c, n) :: r) pc (v0 :: v1 :: .int x :: lr) (st) D a) = (am_w E K Q r (pc + n) (v0 :: v1 :: .int (x + Int32.ofInt c) :: lr) (st) D a) := am_nr (propext ⟨fun h => (show _ ∧ _ from h).2, fun h => ⟨(by show 2 < (_ : List Value).length; simp only [List.length_cons]; omega), h⟩⟩)
theorem ae_iload_3 {v0 v1 v2 : Value} {lr : List Value} {x : Int32} : (am_w E K Q ((.iload_n 3, n) :: r) pc (v0 :: v1 :: v2 :: .int x :: lr) (st) D a) = (am_w E K Q r (pc + n) (v0 :: v1 :: v2 :: .int x :: lr) (.int x :: st) D a) := am_nr rfl
theorem ae_aload_3 {v0 v1 v2 : Value} {lr : List Value} {x : Nat} : (am_w E K Q ((.aload_n 3, n) :: r) pc (v0 :: v1 :: v2 :: .ref x :: lr) (st) D a) = (am_w E K Q r (pc + n) (v0 :: v1 :: v2 :: .ref x :: lr) (.ref x :: st) D a) := am_nr rfl
theorem ae_aloadN_3 {v0 v1 v2 : Value} {lr : List Value} : (am_w E K Q ((.aload_n 3, n) :: r) pc (v0 :: v1 :: v2 :: .null :: lr) (st) D a) = (am_w E K Q r (pc + n) (v0 :: v1 :: v2 :: .null :: lr) (.null :: st) D a) := am_nr rfl
theorem ae_istore_3 {v0 v1 v2 : Value} {lr : List Value} {v : Value} {x : Int32} : (am_w E K Q ((.istore_n 3, n) :: r) pc (v0 :: v1 :: v2 :: v :: lr) (.int x :: st) D a) = (am_w E K Q r (pc + n) (v0 :: v1 :: v2 :: .int x :: lr) (st) D a) := am_nr (propext ⟨fun h => (show _ ∧ _ from h).2, fun h => ⟨(by show 3 < (_ : List Value).length; simp only [List.length_cons]; omega), h⟩⟩)
theorem ae_astore_3 {v0 v1 v2 : Value} {lr : List Value} {v : Value} {x : Nat} : (am_w E K Q ((.astore_n 3, n) :: r) pc (v0 :: v1 :: v2 :: v :: lr) (.ref x :: st) D a) = (am_w E K Q r (pc + n) (v0 :: v1 :: v2 :: .ref x :: lr) (st) D a) := am_nr (propext ⟨fun h => (show _ ∧ _ from h).2, fun h => ⟨(by show 3 < (_ : List Value).length; simp only [List.length_cons]; omega), h⟩⟩)
theorem ae_astoreN_3 {v0 v1 v2 : Value} {lr : List Value} {v : Value} : (am_w E K Q ((.astore_n 3, n) :: r) pc (v0 :: v1 :: v2 :: v :: lr) (.null :: st) D a) = (am_w E K Q r (pc + n) (v0 :: v1 :: v2 :: .null :: lr) (st) D a) := am_nr (propext ⟨fun h => (show _ ∧ _ from h).2, fun h => ⟨(by show 3 < (_ : List Value).length; simp only [List.length_cons]; omega), h⟩⟩)
theorem ae_iinc_3 {v0 v1 v2 : Value} {lr : List Value} {x : Int32} {c : Int} : (am_w E K Q ((.iinc 3 c, n) :: r) pc (v0 :: v1 :: v2 :: .int x :: lr) (st) D a) = (am_w E K Q r (pc + n) (v0 :: v1 :: v2 :: .int (x + Int32.ofInt c) :: lr) (st) D a) := am_nr (propext ⟨fun h => (show _ ∧ _ from h).2, fun h => ⟨(by show 3 < (_ : List Value).length; simp only [List.length_cons]; omega), h⟩⟩)
theorem ae_iload_4 {v0 v1 v2 v3 : Value} {lr : List Value} {x : Int32} : (am_w E K Q ((.iload 4, n) :: r) pc (v0 :: v1 :: v2 :: v3 :: .int x :: lr) (st) D a) = (am_w E K Q r (pc + n) (v0 :: v1 :: v2 :: v3 :: .int x :: lr) (.int x :: st) D a) := am_nr rfl
theorem ae_aload_4 {v0 v1 v2 v3 : Value} {lr : List Value} {x : Nat} : (am_w E K Q ((.aload 4, n) :: r) pc (v0 :: v1 :: v2 :: v3 :: .ref x :: lr) (st) D a) = (am_w E K Q r (pc + n) (v0 :: v1 :: v2 :: v3 :: .ref x :: lr) (.ref x :: st) D a) := am_nr rfl
theorem ae_aloadN_4 {v0 v1 v2 v3 : Value} {lr : List Value} : (am_w E K Q ((.aload 4, n) :: r) pc (v0 :: v1 :: v2 :: v3 :: .null :: lr) (st) D a) = (am_w E K Q r (pc + n) (v0 :: v1 :: v2 :: v3 :: .null :: lr) (.null :: st) D a) := am_nr rfl
theorem ae_istore_4 {v0 v1 v2 v3 : Value} {lr : List Value} {v : Value} {x : Int32} : (am_w E K Q ((.istore 4, n) :: r) pc (v0 :: v1 :: v2 :: v3 :: v :: lr) (.int x :: st) D a) = (am_w E K Q r (pc + n) (v0 :: v1 :: v2 :: v3 :: .int x :: lr) (st) D a) := am_nr (propext ⟨fun h => (show _ ∧ _ from h).2, fun h => ⟨(by show 4 < (_ : List Value).length; simp only [List.length_cons]; omega), h⟩⟩)
theorem ae_astore_4 {v0 v1 v2 v3 : Value} {lr : List Value} {v : Value} {x : Nat} : (am_w E K Q ((.astore 4, n) :: r) pc (v0 :: v1 :: v2 :: v3 :: v :: lr) (.ref x :: st) D a) = (am_w E K Q r (pc + n) (v0 :: v1 :: v2 :: v3 :: .ref x :: lr) (st) D a) := am_nr (propext ⟨fun h => (show _ ∧ _ from h).2, fun h => ⟨(by show 4 < (_ : List Value).length; simp only [List.length_cons]; omega), h⟩⟩)
theorem ae_astoreN_4 {v0 v1 v2 v3 : Value} {lr : List Value} {v : Value} : (am_w E K Q ((.astore 4, n) :: r) pc (v0 :: v1 :: v2 :: v3 :: v :: lr) (.null :: st) D a) = (am_w E K Q r (pc + n) (v0 :: v1 :: v2 :: v3 :: .null :: lr) (st) D a) := am_nr (propext ⟨fun h => (show _ ∧ _ from h).2, fun h => ⟨(by show 4 < (_ : List Value).length; simp only [List.length_cons]; omega), h⟩⟩)
theorem ae_iinc_4 {v0 v1 v2 v3 : Value} {lr : List Value} {x : Int32} {c : Int} : (am_w E K Q ((.iinc 4 c, n) :: r) pc (v0 :: v1 :: v2 :: v3 :: .int x :: lr) (st) D a) = (am_w E K Q r (pc + n) (v0 :: v1 :: v2 :: v3 :: .int (x + Int32.ofInt c) :: lr) (st) D a) := am_nr (propext ⟨fun h => (show _ ∧ _ from h).2, fun h => ⟨(by show 4 < (_ : List Value).length; simp only [List.length_cons]; omega), h⟩⟩)
theorem ae_iload_5 {v0 v1 v2 v3 v4 : Value} {lr : List Value} {x : Int32} : (am_w E K Q ((.iload 5, n) :: r) pc (v0 :: v1 :: v2 :: v3 :: v4 :: .int x :: lr) (st) D a) = (am_w E K Q r (pc + n) (v0 :: v1 :: v2 :: v3 :: v4 :: .int x :: lr) (.int x :: st) D a) := am_nr rfl
theorem ae_aload_5 {v0 v1 v2 v3 v4 : Value} {lr : List Value} {x : Nat} : (am_w E K Q ((.aload 5, n) :: r) pc (v0 :: v1 :: v2 :: v3 :: v4 :: .ref x :: lr) (st) D a) = (am_w E K Q r (pc + n) (v0 :: v1 :: v2 :: v3 :: v4 :: .ref x :: lr) (.ref x :: st) D a) := am_nr rfl
theorem ae_aloadN_5 {v0 v1 v2 v3 v4 : Value} {lr : List Value} : (am_w E K Q ((.aload 5, n) :: r) pc (v0 :: v1 :: v2 :: v3 :: v4 :: .null :: lr) (st) D a) = (am_w E K Q r (pc + n) (v0 :: v1 :: v2 :: v3 :: v4 :: .null :: lr) (.null :: st) D a) := am_nr rfl
theorem ae_istore_5 {v0 v1 v2 v3 v4 : Value} {lr : List Value} {v : Value} {x : Int32} : (am_w E K Q ((.istore 5, n) :: r) pc (v0 :: v1 :: v2 :: v3 :: v4 :: v :: lr) (.int x :: st) D a) = (am_w E K Q r (pc + n) (v0 :: v1 :: v2 :: v3 :: v4 :: .int x :: lr) (st) D a) := am_nr (propext ⟨fun h => (show _ ∧ _ from h).2, fun h => ⟨(by show 5 < (_ : List Value).length; simp only [List.length_cons]; omega), h⟩⟩)
theorem ae_astore_5 {v0 v1 v2 v3 v4 : Value} {lr : List Value} {v : Value} {x : Nat} : (am_w E K Q ((.astore 5, n) :: r) pc (v0 :: v1 :: v2 :: v3 :: v4 :: v :: lr) (.ref x :: st) D a) = (am_w E K Q r (pc + n) (v0 :: v1 :: v2 :: v3 :: v4 :: .ref x :: lr) (st) D a) := am_nr (propext ⟨fun h => (show _ ∧ _ from h).2, fun h => ⟨(by show 5 < (_ : List Value).length; simp only [List.length_cons]; omega), h⟩⟩)
theorem ae_astoreN_5 {v0 v1 v2 v3 v4 : Value} {lr : List Value} {v : Value} : (am_w E K Q ((.astore 5, n) :: r) pc (v0 :: v1 :: v2 :: v3 :: v4 :: v :: lr) (.null :: st) D a) = (am_w E K Q r (pc + n) (v0 :: v1 :: v2 :: v3 :: v4 :: .null :: lr) (st) D a) := am_nr (propext ⟨fun h => (show _ ∧ _ from h).2, fun h => ⟨(by show 5 < (_ : List Value).length; simp only [List.length_cons]; omega), h⟩⟩)
theorem ae_iinc_5 {v0 v1 v2 v3 v4 : Value} {lr : List Value} {x : Int32} {c : Int} : (am_w E K Q ((.iinc 5 c, n) :: r) pc (v0 :: v1 :: v2 :: v3 :: v4 :: .int x :: lr) (st) D a) = (am_w E K Q r (pc + n) (v0 :: v1 :: v2 :: v3 :: v4 :: .int (x + Int32.ofInt c) :: lr) (st) D a) := am_nr (propext ⟨fun h => (show _ ∧ _ from h).2, fun h => ⟨(by show 5 < (_ : List Value).length; simp only [List.length_cons]; omega), h⟩⟩)
theorem ae_iload_6 {v0 v1 v2 v3 v4 v5 : Value} {lr : List Value} {x : Int32} : (am_w E K Q ((.iload 6, n) :: r) pc (v0 :: v1 :: v2 :: v3 :: v4 :: v5 :: .int x :: lr) (st) D a) = (am_w E K Q r (pc + n) (v0 :: v1 :: v2 :: v3 :: v4 :: v5 :: .int x :: lr) (.int x :: st) D a) := am_nr rfl
theorem ae_aload_6 {v0 v1 v2 v3 v4 v5 : Value} {lr : List Value} {x : Nat} : (am_w E K Q ((.aload 6, n) :: r) pc (v0 :: v1 :: v2 :: v3 :: v4 :: v5 :: .ref x :: lr) (st) D a) = (am_w E K Q r (pc + n) (v0 :: v1 :: v2 :: v3 :: v4 :: v5 :: .ref x :: lr) (.ref x :: st) D a) := am_nr rfl
theorem ae_aloadN_6 {v0 v1 v2 v3 v4 v5 : Value} {lr : List Value} : (am_w E K Q ((.aload 6, n) :: r) pc (v0 :: v1 :: v2 :: v3 :: v4 :: v5 :: .null :: lr) (st) D a) = (am_w E K Q r (pc + n) (v0 :: v1 :: v2 :: v3 :: v4 :: v5 :: .null :: lr) (.null :: st) D a) := am_nr rfl
theorem ae_istore_6 {v0 v1 v2 v3 v4 v5 : Value} {lr : List Value} {v : Value} {x : Int32} : (am_w E K Q ((.istore 6, n) :: r) pc (v0 :: v1 :: v2 :: v3 :: v4 :: v5 :: v :: lr) (.int x :: st) D a) = (am_w E K Q r (pc + n) (v0 :: v1 :: v2 :: v3 :: v4 :: v5 :: .int x :: lr) (st) D a) := am_nr (propext ⟨fun h => (show _ ∧ _ from h).2, fun h => ⟨(by show 6 < (_ : List Value).length; simp only [List.length_cons]; omega), h⟩⟩)
theorem ae_astore_6 {v0 v1 v2 v3 v4 v5 : Value} {lr : List Value} {v : Value} {x : Nat} : (am_w E K Q ((.astore 6, n) :: r) pc (v0 :: v1 :: v2 :: v3 :: v4 :: v5 :: v :: lr) (.ref x :: st) D a) = (am_w E K Q r (pc + n) (v0 :: v1 :: v2 :: v3 :: v4 :: v5 :: .ref x :: lr) (st) D a) := am_nr (propext ⟨fun h => (show _ ∧ _ from h).2, fun h => ⟨(by show 6 < (_ : List Value).length; simp only [List.length_cons]; omega), h⟩⟩)
theorem ae_astoreN_6 {v0 v1 v2 v3 v4 v5 : Value} {lr : List Value} {v : Value} : (am_w E K Q ((.astore 6, n) :: r) pc (v0 :: v1 :: v2 :: v3 :: v4 :: v5 :: v :: lr) (.null :: st) D a) = (am_w E K Q r (pc + n) (v0 :: v1 :: v2 :: v3 :: v4 :: v5 :: .null :: lr) (st) D a) := am_nr (propext ⟨fun h => (show _ ∧ _ from h).2, fun h => ⟨(by show 6 < (_ : List Value).length; simp only [List.length_cons]; omega), h⟩⟩)
theorem ae_iinc_6 {v0 v1 v2 v3 v4 v5 : Value} {lr : List Value} {x : Int32} {c : Int} : (am_w E K Q ((.iinc 6 c, n) :: r) pc (v0 :: v1 :: v2 :: v3 :: v4 :: v5 :: .int x :: lr) (st) D a) = (am_w E K Q r (pc + n) (v0 :: v1 :: v2 :: v3 :: v4 :: v5 :: .int (x + Int32.ofInt c) :: lr) (st) D a) := am_nr (propext ⟨fun h => (show _ ∧ _ from h).2, fun h => ⟨(by show 6 < (_ : List Value).length; simp only [List.length_cons]; omega), h⟩⟩)
theorem ae_iload_7 {v0 v1 v2 v3 v4 v5 v6 : Value} {lr : List Value} {x : Int32} : (am_w E K Q ((.iload 7, n) :: r) pc (v0 :: v1 :: v2 :: v3 :: v4 :: v5 :: v6 :: .int x :: lr) (st) D a) = (am_w E K Q r (pc + n) (v0 :: v1 :: v2 :: v3 :: v4 :: v5 :: v6 :: .int x :: lr) (.int x :: st) D a) := am_nr rfl
theorem ae_aload_7 {v0 v1 v2 v3 v4 v5 v6 : Value} {lr : List Value} {x : Nat} : (am_w E K Q ((.aload 7, n) :: r) pc (v0 :: v1 :: v2 :: v3 :: v4 :: v5 :: v6 :: .ref x :: lr) (st) D a) = (am_w E K Q r (pc + n) (v0 :: v1 :: v2 :: v3 :: v4 :: v5 :: v6 :: .ref x :: lr) (.ref x :: st) D a) := am_nr rfl
theorem ae_aloadN_7 {v0 v1 v2 v3 v4 v5 v6 : Value} {lr : List Value} : (am_w E K Q ((.aload 7, n) :: r) pc (v0 :: v1 :: v2 :: v3 :: v4 :: v5 :: v6 :: .null :: lr) (st) D a) = (am_w E K Q r (pc + n) (v0 :: v1 :: v2 :: v3 :: v4 :: v5 :: v6 :: .null :: lr) (.null :: st) D a) := am_nr rfl
theorem ae_istore_7 {v0 v1 v2 v3 v4 v5 v6 : Value} {lr : List Value} {v : Value} {x : Int32} : (am_w E K Q ((.istore 7, n) :: r) pc (v0 :: v1 :: v2 :: v3 :: v4 :: v5 :: v6 :: v :: lr) (.int x :: st) D a) = (am_w E K Q r (pc + n) (v0 :: v1 :: v2 :: v3 :: v4 :: v5 :: v6 :: .int x :: lr) (st) D a) := am_nr (propext ⟨fun h => (show _ ∧ _ from h).2, fun h => ⟨(by show 7 < (_ : List Value).length; simp only [List.length_cons]; omega), h⟩⟩)
theorem ae_astore_7 {v0 v1 v2 v3 v4 v5 v6 : Value} {lr : List Value} {v : Value} {x : Nat} : (am_w E K Q ((.astore 7, n) :: r) pc (v0 :: v1 :: v2 :: v3 :: v4 :: v5 :: v6 :: v :: lr) (.ref x :: st) D a) = (am_w E K Q r (pc + n) (v0 :: v1 :: v2 :: v3 :: v4 :: v5 :: v6 :: .ref x :: lr) (st) D a) := am_nr (propext ⟨fun h => (show _ ∧ _ from h).2, fun h => ⟨(by show 7 < (_ : List Value).length; simp only [List.length_cons]; omega), h⟩⟩)
theorem ae_astoreN_7 {v0 v1 v2 v3 v4 v5 v6 : Value} {lr : List Value} {v : Value} : (am_w E K Q ((.astore 7, n) :: r) pc (v0 :: v1 :: v2 :: v3 :: v4 :: v5 :: v6 :: v :: lr) (.null :: st) D a) = (am_w E K Q r (pc + n) (v0 :: v1 :: v2 :: v3 :: v4 :: v5 :: v6 :: .null :: lr) (st) D a) := am_nr (propext ⟨fun h => (show _ ∧ _ from h).2, fun h => ⟨(by show 7 < (_ : List Value).length; simp only [List.length_cons]; omega), h⟩⟩)
theorem ae_iinc_7 {v0 v1 v2 v3 v4 v5 v6 : Value} {lr : List Value} {x : Int32} {c : Int} : (am_w E K Q ((.iinc 7 c, n) :: r) pc (v0 :: v1 :: v2 :: v3 :: v4 :: v5 :: v6 :: .int x :: lr) (st) D a) = (am_w E K Q r (pc + n) (v0 :: v1 :: v2 :: v3 :: v4 :: v5 :: v6 :: .int (x + Int32.ofInt c) :: lr) (st) D a) := am_nr (propext ⟨fun h => (show _ ∧ _ from h).2, fun h => ⟨(by show 7 < (_ : List Value).length; simp only [List.length_cons]; omega), h⟩⟩)
theorem ae_iload_8 {v0 v1 v2 v3 v4 v5 v6 v7 : Value} {lr : List Value} {x : Int32} : (am_w E K Q ((.iload 8, n) :: r) pc (v0 :: v1 :: v2 :: v3 :: v4 :: v5 :: v6 :: v7 :: .int x :: lr) (st) D a) = (am_w E K Q r (pc + n) (v0 :: v1 :: v2 :: v3 :: v4 :: v5 :: v6 :: v7 :: .int x :: lr) (.int x :: st) D a) := am_nr rfl
theorem ae_aload_8 {v0 v1 v2 v3 v4 v5 v6 v7 : Value} {lr : List Value} {x : Nat} : (am_w E K Q ((.aload 8, n) :: r) pc (v0 :: v1 :: v2 :: v3 :: v4 :: v5 :: v6 :: v7 :: .ref x :: lr) (st) D a) = (am_w E K Q r (pc + n) (v0 :: v1 :: v2 :: v3 :: v4 :: v5 :: v6 :: v7 :: .ref x :: lr) (.ref x :: st) D a) := am_nr rfl
theorem ae_aloadN_8 {v0 v1 v2 v3 v4 v5 v6 v7 : Value} {lr : List Value} : (am_w E K Q ((.aload 8, n) :: r) pc (v0 :: v1 :: v2 :: v3 :: v4 :: v5 :: v6 :: v7 :: .null :: lr) (st) D a) = (am_w E K Q r (pc + n) (v0 :: v1 :: v2 :: v3 :: v4 :: v5 :: v6 :: v7 :: .null :: lr) (.null :: st) D a) := am_nr rfl
theorem ae_istore_8 {v0 v1 v2 v3 v4 v5 v6 v7 : Value} {lr : List Value} {v : Value} {x : Int32} : (am_w E K Q ((.istore 8, n) :: r) pc (v0 :: v1 :: v2 :: v3 :: v4 :: v5 :: v6 :: v7 :: v :: lr) (.int x :: st) D a) = (am_w E K Q r (pc + n) (v0 :: v1 :: v2 :: v3 :: v4 :: v5 :: v6 :: v7 :: .int x :: lr) (st) D a) := am_nr (propext ⟨fun h => (show _ ∧ _ from h).2, fun h => ⟨(by show 8 < (_ : List Value).length; simp only [List.length_cons]; omega), h⟩⟩)
theorem ae_astore_8 {v0 v1 v2 v3 v4 v5 v6 v7 : Value} {lr : List Value} {v : Value} {x : Nat} : (am_w E K Q ((.astore 8, n) :: r) pc (v0 :: v1 :: v2 :: v3 :: v4 :: v5 :: v6 :: v7 :: v :: lr) (.ref x :: st) D a) = (am_w E K Q r (pc + n) (v0 :: v1 :: v2 :: v3 :: v4 :: v5 :: v6 :: v7 :: .ref x :: lr) (st) D a) := am_nr (propext ⟨fun h => (show _ ∧ _ from h).2, fun h => ⟨(by show 8 < (_ : List Value).length; simp only [List.length_cons]; omega), h⟩⟩)
theorem ae_astoreN_8 {v0 v1 v2 v3 v4 v5 v6 v7 : Value} {lr : List Value} {v : Value} : (am_w E K Q ((.astore 8, n) :: r) pc (v0 :: v1 :: v2 :: v3 :: v4 :: v5 :: v6 :: v7 :: v :: lr) (.null :: st) D a) = (am_w E K Q r (pc + n) (v0 :: v1 :: v2 :: v3 :: v4 :: v5 :: v6 :: v7 :: .null :: lr) (st) D a) := am_nr (propext ⟨fun h => (show _ ∧ _ from h).2, fun h => ⟨(by show 8 < (_ : List Value).length; simp only [List.length_cons]; omega), h⟩⟩)
theorem ae_iinc_8 {v0 v1 v2 v3 v4 v5 v6 v7 : Value} {lr : List Value} {x : Int32} {c : Int} : (am_w E K Q ((.iinc 8 c, n) :: r) pc (v0 :: v1 :: v2 :: v3 :: v4 :: v5 :: v6 :: v7 :: .int x :: lr) (st) D a) = (am_w E K Q r (pc + n) (v0 :: v1 :: v2 :: v3 :: v4 :: v5 :: v6 :: v7 :: .int (x + Int32.ofInt c) :: lr) (st) D a) := am_nr (propext ⟨fun h => (show _ ∧ _ from h).2, fun h => ⟨(by show 8 < (_ : List Value).length; simp only [List.length_cons]; omega), h⟩⟩)
theorem ae_iload_9 {v0 v1 v2 v3 v4 v5 v6 v7 v8 : Value} {lr : List Value} {x : Int32} : (am_w E K Q ((.iload 9, n) :: r) pc (v0 :: v1 :: v2 :: v3 :: v4 :: v5 :: v6 :: v7 :: v8 :: .int x :: lr) (st) D a) = (am_w E K Q r (pc + n) (v0 :: v1 :: v2 :: v3 :: v4 :: v5 :: v6 :: v7 :: v8 :: .int x :: lr) (.int x :: st) D a) := am_nr rfl
theorem ae_aload_9 {v0 v1 v2 v3 v4 v5 v6 v7 v8 : Value} {lr : List Value} {x : Nat} : (am_w E K Q ((.aload 9, n) :: r) pc (v0 :: v1 :: v2 :: v3 :: v4 :: v5 :: v6 :: v7 :: v8 :: .ref x :: lr) (st) D a) = (am_w E K Q r (pc + n) (v0 :: v1 :: v2 :: v3 :: v4 :: v5 :: v6 :: v7 :: v8 :: .ref x :: lr) (.ref x :: st) D a) := am_nr rfl
theorem ae_aloadN_9 {v0 v1 v2 v3 v4 v5 v6 v7 v8 : Value} {lr : List Value} : (am_w E K Q ((.aload 9, n) :: r) pc (v0 :: v1 :: v2 :: v3 :: v4 :: v5 :: v6 :: v7 :: v8 :: .null :: lr) (st) D a) = (am_w E K Q r (pc + n) (v0 :: v1 :: v2 :: v3 :: v4 :: v5 :: v6 :: v7 :: v8 :: .null :: lr) (.null :: st) D a) := am_nr rfl
theorem ae_istore_9 {v0 v1 v2 v3 v4 v5 v6 v7 v8 : Value} {lr : List Value} {v : Value} {x : Int32} : (am_w E K Q ((.istore 9, n) :: r) pc (v0 :: v1 :: v2 :: v3 :: v4 :: v5 :: v6 :: v7 :: v8 :: v :: lr) (.int x :: st) D a) = (am_w E K Q r (pc + n) (v0 :: v1 :: v2 :: v3 :: v4 :: v5 :: v6 :: v7 :: v8 :: .int x :: lr) (st) D a) := am_nr (propext ⟨fun h => (show _ ∧ _ from h).2, fun h => ⟨(by show 9 < (_ : List Value).length; simp only [List.length_cons]; omega), h⟩⟩)
theorem ae_astore_9 {v0 v1 v2 v3 v4 v5 v6 v7 v8 : Value} {lr : List Value} {v : Value} {x : Nat} : (am_w E K Q ((.astore 9, n) :: r) pc (v0 :: v1 :: v2 :: v3 :: v4 :: v5 :: v6 :: v7 :: v8 :: v :: lr) (.ref x :: st) D a) = (am_w E K Q r (pc + n) (v0 :: v1 :: v2 :: v3 :: v4 :: v5 :: v6 :: v7 :: v8 :: .ref x :: lr) (st) D a) := am_nr (propext ⟨fun h => (show _ ∧ _ from h).2, fun h => ⟨(by show 9 < (_ : List Value).length; simp only [List.length_cons]; omega), h⟩⟩)
theorem ae_astoreN_9 {v0 v1 v2 v3 v4 v5 v6 v7 v8 : Value} {lr : List Value} {v : Value} : (am_w E K Q ((.astore 9, n) :: r) pc (v0 :: v1 :: v2 :: v3 :: v4 :: v5 :: v6 :: v7 :: v8 :: v :: lr) (.null :: st) D a) = (am_w E K Q r (pc + n) (v0 :: v1 :: v2 :: v3 :: v4 :: v5 :: v6 :: v7 :: v8 :: .null :: lr) (st) D a) := am_nr (propext ⟨fun h => (show _ ∧ _ from h).2, fun h => ⟨(by show 9 < (_ : List Value).length; simp only [List.length_cons]; omega), h⟩⟩)
theorem ae_iinc_9 {v0 v1 v2 v3 v4 v5 v6 v7 v8 : Value} {lr : List Value} {x : Int32} {c : Int} : (am_w E K Q ((.iinc 9 c, n) :: r) pc (v0 :: v1 :: v2 :: v3 :: v4 :: v5 :: v6 :: v7 :: v8 :: .int x :: lr) (st) D a) = (am_w E K Q r (pc + n) (v0 :: v1 :: v2 :: v3 :: v4 :: v5 :: v6 :: v7 :: v8 :: .int (x + Int32.ofInt c) :: lr) (st) D a) := am_nr (propext ⟨fun h => (show _ ∧ _ from h).2, fun h => ⟨(by show 9 < (_ : List Value).length; simp only [List.length_cons]; omega), h⟩⟩)
theorem ae_iadd {x y : Int32} : (am_w E K Q ((.iadd, n) :: r) pc (L) (.int y :: .int x :: st) D a) = (am_w E K Q r (pc + n) (L) (.int (x + y) :: st) D a) := am_nr rfl
theorem ae_isub {x y : Int32} : (am_w E K Q ((.isub, n) :: r) pc (L) (.int y :: .int x :: st) D a) = (am_w E K Q r (pc + n) (L) (.int (x - y) :: st) D a) := am_nr rfl
theorem ae_imul {x y : Int32} : (am_w E K Q ((.imul, n) :: r) pc (L) (.int y :: .int x :: st) D a) = (am_w E K Q r (pc + n) (L) (.int (x * y) :: st) D a) := am_nr rfl
theorem ae_iand {x y : Int32} : (am_w E K Q ((.iand, n) :: r) pc (L) (.int y :: .int x :: st) D a) = (am_w E K Q r (pc + n) (L) (.int (x &&& y) :: st) D a) := am_nr rfl
theorem ae_ior {x y : Int32} : (am_w E K Q ((.ior, n) :: r) pc (L) (.int y :: .int x :: st) D a) = (am_w E K Q r (pc + n) (L) (.int (x ||| y) :: st) D a) := am_nr rfl
theorem ae_ixor {x y : Int32} : (am_w E K Q ((.ixor, n) :: r) pc (L) (.int y :: .int x :: st) D a) = (am_w E K Q r (pc + n) (L) (.int (x ^^^ y) :: st) D a) := am_nr rfl
theorem ae_ishl {x y : Int32} : (am_w E K Q ((.ishl, n) :: r) pc (L) (.int y :: .int x :: st) D a) = (am_w E K Q r (pc + n) (L) (.int (x <<< (y &&& 31)) :: st) D a) := am_nr rfl
theorem ae_iushr {x y : Int32} : (am_w E K Q ((.iushr, n) :: r) pc (L) (.int y :: .int x :: st) D a) = (am_w E K Q r (pc + n) (L) (.int (am_ushr x y) :: st) D a) := am_nr rfl
theorem ae_ineg {x : Int32} : (am_w E K Q ((.ineg, n) :: r) pc (L) (.int x :: st) D a) = (am_w E K Q r (pc + n) (L) (.int (-x) :: st) D a) := am_nr rfl
theorem ae_dup {v : Value} : (am_w E K Q ((.dup, n) :: r) pc (L) (v :: st) D a) = (am_w E K Q r (pc + n) (L) (v :: v :: st) D a) := am_nr rfl
theorem ae_pop {v : Value} : (am_w E K Q ((.pop, n) :: r) pc (L) (v :: st) D a) = (am_w E K Q r (pc + n) (L) (st) D a) := am_nr rfl
theorem ae_dup2 {v u : Value} : (am_w E K Q ((.dup2, n) :: r) pc (L) (v :: u :: st) D a) = (am_w E K Q r (pc + n) (L) (v :: u :: v :: u :: st) D a) := am_nr rfl
theorem ae_goto {o : Int} : (am_w E K Q ((.goto o, n) :: r) pc (L) (st) D a) = (0 ≤ (pc : Int) + o ∧ K ((pc : Int) + o).toNat L st D a) := am_nr rfl
theorem ae_icmp_eq {o : Int} {x y : Int32} : (am_w E K Q ((.if_icmp .eq o, n) :: r) pc (L) (.int y :: .int x :: st) D a) = (0 ≤ (pc : Int) + o ∧ (x = y → K ((pc : Int) + o).toNat L st D a) ∧ (¬ (x = y) → am_w E K Q r (pc + n) (L) (st) D a)) := am_nr rfl
theorem ae_if_eq {o : Int} {x : Int32} : (am_w E K Q ((.ifCond .eq o, n) :: r) pc (L) (.int x :: st) D a) = (0 ≤ (pc : Int) + o ∧ (x = 0 → K ((pc : Int) + o).toNat L st D a) ∧ (¬ (x = 0) → am_w E K Q r (pc + n) (L) (st) D a)) := am_nr rfl
theorem ae_icmp_ne {o : Int} {x y : Int32} : (am_w E K Q ((.if_icmp .ne o, n) :: r) pc (L) (.int y :: .int x :: st) D a) = (0 ≤ (pc : Int) + o ∧ (¬ x = y → K ((pc : Int) + o).toNat L st D a) ∧ (¬ (¬ x = y) → am_w E K Q r (pc + n) (L) (st) D a)) := am_nr rfl
theorem ae_if_ne {o : Int} {x : Int32} : (am_w E K Q ((.ifCond .ne o, n) :: r) pc (L) (.int x :: st) D a) = (0 ≤ (pc : Int) + o ∧ (¬ x = 0 → K ((pc : Int) + o).toNat L st D a) ∧ (¬ (¬ x = 0) → am_w E K Q r (pc + n) (L) (st) D a)) := am_nr rfl
theorem ae_icmp_lt {o : Int} {x y : Int32} : (am_w E K Q ((.if_icmp .lt o, n) :: r) pc (L) (.int y :: .int x :: st) D a) = (0 ≤ (pc : Int) + o ∧ (x < y → K ((pc : Int) + o).toNat L st D a) ∧ (¬ (x < y) → am_w E K Q r (pc + n) (L) (st) D a)) := am_nr rfl
theorem ae_if_lt {o : Int} {x : Int32} : (am_w E K Q ((.ifCond .lt o, n) :: r) pc (L) (.int x :: st) D a) = (0 ≤ (pc : Int) + o ∧ (x < 0 → K ((pc : Int) + o).toNat L st D a) ∧ (¬ (x < 0) → am_w E K Q r (pc + n) (L) (st) D a)) := am_nr rfl
theorem ae_icmp_ge {o : Int} {x y : Int32} : (am_w E K Q ((.if_icmp .ge o, n) :: r) pc (L) (.int y :: .int x :: st) D a) = (0 ≤ (pc : Int) + o ∧ (y ≤ x → K ((pc : Int) + o).toNat L st D a) ∧ (¬ (y ≤ x) → am_w E K Q r (pc + n) (L) (st) D a)) := am_nr rfl
theorem ae_if_ge {o : Int} {x : Int32} : (am_w E K Q ((.ifCond .ge o, n) :: r) pc (L) (.int x :: st) D a) = (0 ≤ (pc : Int) + o ∧ (0 ≤ x → K ((pc : Int) + o).toNat L st D a) ∧ (¬ (0 ≤ x) → am_w E K Q r (pc + n) (L) (st) D a)) := am_nr rfl
theorem ae_icmp_gt {o : Int} {x y : Int32} : (am_w E K Q ((.if_icmp .gt o, n) :: r) pc (L) (.int y :: .int x :: st) D a) = (0 ≤ (pc : Int) + o ∧ (y < x → K ((pc : Int) + o).toNat L st D a) ∧ (¬ (y < x) → am_w E K Q r (pc + n) (L) (st) D a)) := am_nr rfl
theorem ae_if_gt {o : Int} {x : Int32} : (am_w E K Q ((.ifCond .gt o, n) :: r) pc (L) (.int x :: st) D a) = (0 ≤ (pc : Int) + o ∧ (0 < x → K ((pc : Int) + o).toNat L st D a) ∧ (¬ (0 < x) → am_w E K Q r (pc + n) (L) (st) D a)) := am_nr rfl
theorem ae_icmp_le {o : Int} {x y : Int32} : (am_w E K Q ((.if_icmp .le o, n) :: r) pc (L) (.int y :: .int x :: st) D a) = (0 ≤ (pc : Int) + o ∧ (x ≤ y → K ((pc : Int) + o).toNat L st D a) ∧ (¬ (x ≤ y) → am_w E K Q r (pc + n) (L) (st) D a)) := am_nr rfl
theorem ae_if_le {o : Int} {x : Int32} : (am_w E K Q ((.ifCond .le o, n) :: r) pc (L) (.int x :: st) D a) = (0 ≤ (pc : Int) + o ∧ (x ≤ 0 → K ((pc : Int) + o).toNat L st D a) ∧ (¬ (x ≤ 0) → am_w E K Q r (pc + n) (L) (st) D a)) := am_nr rfl
theorem ae_ifnull_r {o : Int} {x : Nat} : (am_w E K Q ((.ifnull o, n) :: r) pc (L) (.ref x :: st) D a) = (0 ≤ (pc : Int) + o ∧ am_w E K Q r (pc + n) (L) (st) D a) := am_nr (by show (_ ∧ (_ → _) ∧ (_ → _)) = _; simp)
theorem ae_ifnull_n {o : Int} : (am_w E K Q ((.ifnull o, n) :: r) pc (L) (.null :: st) D a) = (0 ≤ (pc : Int) + o ∧ K ((pc : Int) + o).toNat L st D a) := am_nr (by show (_ ∧ (_ → _) ∧ (_ → _)) = _; simp)
theorem ae_ifnonnull_r {o : Int} {x : Nat} : (am_w E K Q ((.ifnonnull o, n) :: r) pc (L) (.ref x :: st) D a) = (0 ≤ (pc : Int) + o ∧ K ((pc : Int) + o).toNat L st D a) := am_nr (by show (_ ∧ (_ → _) ∧ (_ → _)) = _; simp)
theorem ae_ifnonnull_n {o : Int} : (am_w E K Q ((.ifnonnull o, n) :: r) pc (L) (.null :: st) D a) = (0 ≤ (pc : Int) + o ∧ am_w E K Q r (pc + n) (L) (st) D a) := am_nr (by show (_ ∧ (_ → _) ∧ (_ → _)) = _; simp)
theorem ae_acmp_eq_rr {o : Int} {x y : Nat} : (am_w E K Q ((.if_acmp .eq o, n) :: r) pc (L) (.ref y :: .ref x :: st) D a) = (0 ≤ (pc : Int) + o ∧ (x = y → K ((pc : Int) + o).toNat L st D a) ∧ (¬ x = y → am_w E K Q r (pc + n) (L) (st) D a)) := am_nr (by show (_ ∧ (_ → _) ∧ (_ → _)) = _; simp)
theorem ae_acmp_ne_rr {o : Int} {x y : Nat} : (am_w E K Q ((.if_acmp .ne o, n) :: r) pc (L) (.ref y :: .ref x :: st) D a) = (0 ≤ (pc : Int) + o ∧ (¬ x = y → K ((pc : Int) + o).toNat L st D a) ∧ (¬ ¬ x = y → am_w E K Q r (pc + n) (L) (st) D a)) := am_nr (by show (_ ∧ (_ → _) ∧ (_ → _)) = _; simp)
theorem ae_acmp_eq_rn {o : Int} {x : Nat} : (am_w E K Q ((.if_acmp .eq o, n) :: r) pc (L) (.null :: .ref x :: st) D a) = (0 ≤ (pc : Int) + o ∧ am_w E K Q r (pc + n) (L) (st) D a) := am_nr (by show (_ ∧ (_ → _) ∧ (_ → _)) = _; simp)
theorem ae_acmp_ne_rn {o : Int} {x : Nat} : (am_w E K Q ((.if_acmp .ne o, n) :: r) pc (L) (.null :: .ref x :: st) D a) = (0 ≤ (pc : Int) + o ∧ K ((pc : Int) + o).toNat L st D a) := am_nr (by show (_ ∧ (_ → _) ∧ (_ → _)) = _; simp)
theorem ae_switch {d lo hi : Int} {os : Array Int} {x : Int32} : (am_w E K Q ((.tableswitch d lo hi os, n) :: r) pc (L) (.int x :: st) D a) = (am_b pc d (x.toInt < lo ∨ hi < x.toInt) (fun t => K t L st D a) (am_j pc (os.getD (x.toInt - lo).toNat d) fun t => (x.toInt - lo).toNat < os.size ∧ K t L st D a)) := am_nr rfl
theorem ae_iret {x : Int32} : (am_w E K Q ((.ireturn, n) :: r) pc (L) ([.int x]) D a) = (Q (some (.int x)) D a) := am_nr (by show (_ ∧ _) = _; simp)
theorem ae_aret {x : Nat} : (am_w E K Q ((.areturn, n) :: r) pc (L) ([.ref x]) D a) = (Q (some (.ref x)) D a) := am_nr (by show (_ ∧ _) = _; simp)
theorem ae_ret  : (am_w E K Q ((.return_, n) :: r) pc (L) ([]) D a) = (Q none D a) := am_nr (by show (_ ∧ _) = _; simp)
theorem aE_getfield {x : Nat} : (am_w (am_Em sh RC RS fl nw cal) K Q ((.getfield x, n) :: r) pc L (st) D a) = (am_get sh (fl x) st D a (fun st D a => am_w (am_Em sh RC RS fl nw cal) K Q r (pc + n) L st D a)) := am_nr rfl
theorem aE_putfield {x : Nat} : (am_w (am_Em sh RC RS fl nw cal) K Q ((.putfield x, n) :: r) pc L (st) D a) = (am_put sh (fl x) st D a (fun st D a => am_w (am_Em sh RC RS fl nw cal) K Q r (pc + n) L st D a)) := am_nr rfl
theorem aE_iaload  : (am_w (am_Em sh RC RS fl nw cal) K Q ((.iaload, n) :: r) pc L (st) D a) = (am_ald sh 0 st D a (fun st D a => am_w (am_Em sh RC RS fl nw cal) K Q r (pc + n) L st D a)) := am_nr rfl
theorem aE_baload  : (am_w (am_Em sh RC RS fl nw cal) K Q ((.baload, n) :: r) pc L (st) D a) = (am_ald sh 1 st D a (fun st D a => am_w (am_Em sh RC RS fl nw cal) K Q r (pc + n) L st D a)) := am_nr rfl
theorem aE_iastore  : (am_w (am_Em sh RC RS fl nw cal) K Q ((.iastore, n) :: r) pc L (st) D a) = (am_ast sh 0 st D a (fun st D a => am_w (am_Em sh RC RS fl nw cal) K Q r (pc + n) L st D a)) := am_nr rfl
theorem aE_bastore  : (am_w (am_Em sh RC RS fl nw cal) K Q ((.bastore, n) :: r) pc L (st) D a) = (am_ast sh 1 st D a (fun st D a => am_w (am_Em sh RC RS fl nw cal) K Q r (pc + n) L st D a)) := am_nr rfl
theorem aE_aastore  : (am_w (am_Em sh RC RS fl nw cal) K Q ((.aastore, n) :: r) pc L (st) D a) = (am_astq sh st D a (fun st D a => am_w (am_Em sh RC RS fl nw cal) K Q r (pc + n) L st D a)) := am_nr rfl
theorem aE_arraylength  : (am_w (am_Em sh RC RS fl nw cal) K Q ((.arraylength, n) :: r) pc L (st) D a) = (am_alen sh st D a (fun st D a => am_w (am_Em sh RC RS fl nw cal) K Q r (pc + n) L st D a)) := am_nr rfl
theorem aE_new {x : Nat} : (am_w (am_Em sh RC RS fl nw cal) K Q ((.new x, n) :: r) pc L (st) D a) = (am_new sh RC RS (nw x) st D a (fun st D a => am_w (am_Em sh RC RS fl nw cal) K Q r (pc + n) L st D a)) := am_nr rfl
theorem aE_newarray_int  : (am_w (am_Em sh RC RS fl nw cal) K Q ((.newarray .int, n) :: r) pc L (st) D a) = (am_newa sh RC RS 0 st D a (fun st D a => am_w (am_Em sh RC RS fl nw cal) K Q r (pc + n) L st D a)) := am_nr rfl
theorem aE_newarray_boolean  : (am_w (am_Em sh RC RS fl nw cal) K Q ((.newarray .boolean, n) :: r) pc L (st) D a) = (am_newa sh RC RS 1 st D a (fun st D a => am_w (am_Em sh RC RS fl nw cal) K Q r (pc + n) L st D a)) := am_nr rfl
theorem aE_anewarray {x : Nat} : (am_w (am_Em sh RC RS fl nw cal) K Q ((.anewarray x, n) :: r) pc L (st) D a) = (am_newa sh RC RS 2 st D a (fun st D a => am_w (am_Em sh RC RS fl nw cal) K Q r (pc + n) L st D a)) := am_nr rfl
theorem aE_invokevirtual {x : Nat} : (am_w (am_Em sh RC RS fl nw cal) K Q ((.invokevirtual x, n) :: r) pc L (st) D a) = (cal (.invokevirtual x) st D a (fun st D a => am_w (am_Em sh RC RS fl nw cal) K Q r (pc + n) L st D a)) := am_nr rfl
theorem aE_invokespecial {x : Nat} : (am_w (am_Em sh RC RS fl nw cal) K Q ((.invokespecial x, n) :: r) pc L (st) D a) = (cal (.invokespecial x) st D a (fun st D a => am_w (am_Em sh RC RS fl nw cal) K Q r (pc + n) L st D a)) := am_nr rfl
theorem aE_invokestatic {x : Nat} : (am_w (am_Em sh RC RS fl nw cal) K Q ((.invokestatic x, n) :: r) pc L (st) D a) = (cal (.invokestatic x) st D a (fun st D a => am_w (am_Em sh RC RS fl nw cal) K Q r (pc + n) L st D a)) := am_nr rfl
theorem aE_multianewarray {x y : Nat} : (am_w (am_Em sh RC RS fl nw cal) K Q ((.multianewarray x y, n) :: r) pc L (st) D a) = (cal (.multianewarray x y) st D a (fun st D a => am_w (am_Em sh RC RS fl nw cal) K Q r (pc + n) L st D a)) := am_nr rfl
theorem aE_ldc_w {x : Nat} : (am_w (am_Em sh RC RS fl nw cal) K Q ((.ldc_w x, n) :: r) pc L (st) D a) = (cal (.ldc_w x) st D a (fun st D a => am_w (am_Em sh RC RS fl nw cal) K Q r (pc + n) L st D a)) := am_nr rfl
theorem aE_aaload {x : Nat} {j : Int32} : (am_w (am_Em sh RC RS fl nw cal) K Q ((.aaload, n) :: r) pc L (.int j :: .ref x :: st) D a) = (am_sel (sh x) (am_ald sh 2 (.int j :: .ref x :: st) D a (fun st D a => am_w (am_Em sh RC RS fl nw cal) K Q r (pc + n) L st D a)) (am_ald sh 3 (.int j :: .ref x :: st) D a (fun st D a => am_w (am_Em sh RC RS fl nw cal) K Q r (pc + n) L st D a))) := am_nr rfl
variable {c0 x y : Nat} {P : am_P}
theorem am_ac_V1 {ci mc ms : Nat} : (am_callV sh RC RS ci 1 mc ms P (.ref x :: st) D a kk) = (am_ob (sh x) ci (fun _ => True) ∧ st.length ≤ 8 ∧ a.2.1 + mc ≤ RC ∧ a.2.2 + ms ≤ RS ∧ P [.ref x] D a.1 (fun v D' N' => kk (v.toList ++ st) D' (N', a.2.1 + mc, a.2.2 + ms))) := by
  apply propext
  constructor
  · rintro ⟨h0, h1, h2, h3, h4, h5⟩
    exact ⟨h0, by simp at h2; omega, h3, h4, h5⟩
  · rintro ⟨h0, h2, h3, h4, h5⟩
    exact ⟨h0, by simp, by simp; omega, h3, h4, h5⟩
theorem ac_V1 {ci mc ms : Nat} : (am_callV sh RC RS ci 1 mc ms P (.ref x :: st) D a kk) = (am_ob (sh x) ci (fun _ => True) ∧ st.length ≤ 8 ∧ a.2.1 + mc ≤ RC ∧ a.2.2 + ms ≤ RS ∧ P [.ref x] D a.1 (fun v D' N' => kk (v.toList ++ st) D' (N', a.2.1 + mc, a.2.2 + ms))) := am_ac_V1
theorem am_ac_V2 {ci mc ms : Nat} {u1 : Value} : (am_callV sh RC RS ci 2 mc ms P (u1 :: .ref x :: st) D a kk) = (am_ob (sh x) ci (fun _ => True) ∧ st.length ≤ 8 ∧ a.2.1 + mc ≤ RC ∧ a.2.2 + ms ≤ RS ∧ P [.ref x, u1] D a.1 (fun v D' N' => kk (v.toList ++ st) D' (N', a.2.1 + mc, a.2.2 + ms))) := by
  apply propext
  constructor
  · rintro ⟨h0, h1, h2, h3, h4, h5⟩
    exact ⟨h0, by simp at h2; omega, h3, h4, h5⟩
  · rintro ⟨h0, h2, h3, h4, h5⟩
    exact ⟨h0, by simp, by simp; omega, h3, h4, h5⟩
theorem ac_V2 {ci mc ms : Nat} {u1 : Value} : (am_callV sh RC RS ci 2 mc ms P (u1 :: .ref x :: st) D a kk) = (am_ob (sh x) ci (fun _ => True) ∧ st.length ≤ 8 ∧ a.2.1 + mc ≤ RC ∧ a.2.2 + ms ≤ RS ∧ P [.ref x, u1] D a.1 (fun v D' N' => kk (v.toList ++ st) D' (N', a.2.1 + mc, a.2.2 + ms))) := am_ac_V2
theorem am_ac_V3 {ci mc ms : Nat} {u1 u2 : Value} : (am_callV sh RC RS ci 3 mc ms P (u2 :: u1 :: .ref x :: st) D a kk) = (am_ob (sh x) ci (fun _ => True) ∧ st.length ≤ 8 ∧ a.2.1 + mc ≤ RC ∧ a.2.2 + ms ≤ RS ∧ P [.ref x, u1, u2] D a.1 (fun v D' N' => kk (v.toList ++ st) D' (N', a.2.1 + mc, a.2.2 + ms))) := by
  apply propext
  constructor
  · rintro ⟨h0, h1, h2, h3, h4, h5⟩
    exact ⟨h0, by simp at h2; omega, h3, h4, h5⟩
  · rintro ⟨h0, h2, h3, h4, h5⟩
    exact ⟨h0, by simp, by simp; omega, h3, h4, h5⟩
theorem ac_V3 {ci mc ms : Nat} {u1 u2 : Value} : (am_callV sh RC RS ci 3 mc ms P (u2 :: u1 :: .ref x :: st) D a kk) = (am_ob (sh x) ci (fun _ => True) ∧ st.length ≤ 8 ∧ a.2.1 + mc ≤ RC ∧ a.2.2 + ms ≤ RS ∧ P [.ref x, u1, u2] D a.1 (fun v D' N' => kk (v.toList ++ st) D' (N', a.2.1 + mc, a.2.2 + ms))) := am_ac_V3
theorem am_ac_V4 {ci mc ms : Nat} {u1 u2 u3 : Value} : (am_callV sh RC RS ci 4 mc ms P (u3 :: u2 :: u1 :: .ref x :: st) D a kk) = (am_ob (sh x) ci (fun _ => True) ∧ st.length ≤ 8 ∧ a.2.1 + mc ≤ RC ∧ a.2.2 + ms ≤ RS ∧ P [.ref x, u1, u2, u3] D a.1 (fun v D' N' => kk (v.toList ++ st) D' (N', a.2.1 + mc, a.2.2 + ms))) := by
  apply propext
  constructor
  · rintro ⟨h0, h1, h2, h3, h4, h5⟩
    exact ⟨h0, by simp at h2; omega, h3, h4, h5⟩
  · rintro ⟨h0, h2, h3, h4, h5⟩
    exact ⟨h0, by simp, by simp; omega, h3, h4, h5⟩
theorem ac_V4 {ci mc ms : Nat} {u1 u2 u3 : Value} : (am_callV sh RC RS ci 4 mc ms P (u3 :: u2 :: u1 :: .ref x :: st) D a kk) = (am_ob (sh x) ci (fun _ => True) ∧ st.length ≤ 8 ∧ a.2.1 + mc ≤ RC ∧ a.2.2 + ms ≤ RS ∧ P [.ref x, u1, u2, u3] D a.1 (fun v D' N' => kk (v.toList ++ st) D' (N', a.2.1 + mc, a.2.2 + ms))) := am_ac_V4
theorem am_ac_V5 {ci mc ms : Nat} {u1 u2 u3 u4 : Value} : (am_callV sh RC RS ci 5 mc ms P (u4 :: u3 :: u2 :: u1 :: .ref x :: st) D a kk) = (am_ob (sh x) ci (fun _ => True) ∧ st.length ≤ 8 ∧ a.2.1 + mc ≤ RC ∧ a.2.2 + ms ≤ RS ∧ P [.ref x, u1, u2, u3, u4] D a.1 (fun v D' N' => kk (v.toList ++ st) D' (N', a.2.1 + mc, a.2.2 + ms))) := by
  apply propext
  constructor
  · rintro ⟨h0, h1, h2, h3, h4, h5⟩
    exact ⟨h0, by simp at h2; omega, h3, h4, h5⟩
  · rintro ⟨h0, h2, h3, h4, h5⟩
    exact ⟨h0, by simp, by simp; omega, h3, h4, h5⟩
theorem ac_V5 {ci mc ms : Nat} {u1 u2 u3 u4 : Value} : (am_callV sh RC RS ci 5 mc ms P (u4 :: u3 :: u2 :: u1 :: .ref x :: st) D a kk) = (am_ob (sh x) ci (fun _ => True) ∧ st.length ≤ 8 ∧ a.2.1 + mc ≤ RC ∧ a.2.2 + ms ≤ RS ∧ P [.ref x, u1, u2, u3, u4] D a.1 (fun v D' N' => kk (v.toList ++ st) D' (N', a.2.1 + mc, a.2.2 + ms))) := am_ac_V5
theorem am_ac_V6 {ci mc ms : Nat} {u1 u2 u3 u4 u5 : Value} : (am_callV sh RC RS ci 6 mc ms P (u5 :: u4 :: u3 :: u2 :: u1 :: .ref x :: st) D a kk) = (am_ob (sh x) ci (fun _ => True) ∧ st.length ≤ 8 ∧ a.2.1 + mc ≤ RC ∧ a.2.2 + ms ≤ RS ∧ P [.ref x, u1, u2, u3, u4, u5] D a.1 (fun v D' N' => kk (v.toList ++ st) D' (N', a.2.1 + mc, a.2.2 + ms))) := by
  apply propext
  constructor
  · rintro ⟨h0, h1, h2, h3, h4, h5⟩
    exact ⟨h0, by simp at h2; omega, h3, h4, h5⟩
  · rintro ⟨h0, h2, h3, h4, h5⟩
    exact ⟨h0, by simp, by simp; omega, h3, h4, h5⟩
theorem ac_V6 {ci mc ms : Nat} {u1 u2 u3 u4 u5 : Value} : (am_callV sh RC RS ci 6 mc ms P (u5 :: u4 :: u3 :: u2 :: u1 :: .ref x :: st) D a kk) = (am_ob (sh x) ci (fun _ => True) ∧ st.length ≤ 8 ∧ a.2.1 + mc ≤ RC ∧ a.2.2 + ms ≤ RS ∧ P [.ref x, u1, u2, u3, u4, u5] D a.1 (fun v D' N' => kk (v.toList ++ st) D' (N', a.2.1 + mc, a.2.2 + ms))) := am_ac_V6
theorem am_ac_V7 {ci mc ms : Nat} {u1 u2 u3 u4 u5 u6 : Value} : (am_callV sh RC RS ci 7 mc ms P (u6 :: u5 :: u4 :: u3 :: u2 :: u1 :: .ref x :: st) D a kk) = (am_ob (sh x) ci (fun _ => True) ∧ st.length ≤ 8 ∧ a.2.1 + mc ≤ RC ∧ a.2.2 + ms ≤ RS ∧ P [.ref x, u1, u2, u3, u4, u5, u6] D a.1 (fun v D' N' => kk (v.toList ++ st) D' (N', a.2.1 + mc, a.2.2 + ms))) := by
  apply propext
  constructor
  · rintro ⟨h0, h1, h2, h3, h4, h5⟩
    exact ⟨h0, by simp at h2; omega, h3, h4, h5⟩
  · rintro ⟨h0, h2, h3, h4, h5⟩
    exact ⟨h0, by simp, by simp; omega, h3, h4, h5⟩
theorem ac_V7 {ci mc ms : Nat} {u1 u2 u3 u4 u5 u6 : Value} : (am_callV sh RC RS ci 7 mc ms P (u6 :: u5 :: u4 :: u3 :: u2 :: u1 :: .ref x :: st) D a kk) = (am_ob (sh x) ci (fun _ => True) ∧ st.length ≤ 8 ∧ a.2.1 + mc ≤ RC ∧ a.2.2 + ms ≤ RS ∧ P [.ref x, u1, u2, u3, u4, u5, u6] D a.1 (fun v D' N' => kk (v.toList ++ st) D' (N', a.2.1 + mc, a.2.2 + ms))) := am_ac_V7
theorem am_ac_S0 {mc ms : Nat} : (am_call RC RS 0 mc ms P (st) D a kk) = (st.length ≤ 8 ∧ a.2.1 + mc ≤ RC ∧ a.2.2 + ms ≤ RS ∧ P [] D a.1 (fun v D' N' => kk (v.toList ++ st) D' (N', a.2.1 + mc, a.2.2 + ms))) := by
  apply propext
  constructor
  · rintro ⟨h1, h2, h3, h4, h5⟩
    exact ⟨by simp at h2; omega, h3, h4, h5⟩
  · rintro ⟨h2, h3, h4, h5⟩
    exact ⟨by simp, by simp; omega, h3, h4, h5⟩
theorem am_ac_S1 {mc ms : Nat} {u0 : Value} : (am_call RC RS 1 mc ms P (u0 :: st) D a kk) = (st.length ≤ 8 ∧ a.2.1 + mc ≤ RC ∧ a.2.2 + ms ≤ RS ∧ P [u0] D a.1 (fun v D' N' => kk (v.toList ++ st) D' (N', a.2.1 + mc, a.2.2 + ms))) := by
  apply propext
  constructor
  · rintro ⟨h1, h2, h3, h4, h5⟩
    exact ⟨by simp at h2; omega, h3, h4, h5⟩
  · rintro ⟨h2, h3, h4, h5⟩
    exact ⟨by simp, by simp; omega, h3, h4, h5⟩
theorem am_ac_S2 {mc ms : Nat} {u0 u1 : Value} : (am_call RC RS 2 mc ms P (u1 :: u0 :: st) D a kk) = (st.length ≤ 8 ∧ a.2.1 + mc ≤ RC ∧ a.2.2 + ms ≤ RS ∧ P [u0, u1] D a.1 (fun v D' N' => kk (v.toList ++ st) D' (N', a.2.1 + mc, a.2.2 + ms))) := by
  apply propext
  constructor
  · rintro ⟨h1, h2, h3, h4, h5⟩
    exact ⟨by simp at h2; omega, h3, h4, h5⟩
  · rintro ⟨h2, h3, h4, h5⟩
    exact ⟨by simp, by simp; omega, h3, h4, h5⟩
theorem am_ac_S3 {mc ms : Nat} {u0 u1 u2 : Value} : (am_call RC RS 3 mc ms P (u2 :: u1 :: u0 :: st) D a kk) = (st.length ≤ 8 ∧ a.2.1 + mc ≤ RC ∧ a.2.2 + ms ≤ RS ∧ P [u0, u1, u2] D a.1 (fun v D' N' => kk (v.toList ++ st) D' (N', a.2.1 + mc, a.2.2 + ms))) := by
  apply propext
  constructor
  · rintro ⟨h1, h2, h3, h4, h5⟩
    exact ⟨by simp at h2; omega, h3, h4, h5⟩
  · rintro ⟨h2, h3, h4, h5⟩
    exact ⟨by simp, by simp; omega, h3, h4, h5⟩
theorem am_ac_S4 {mc ms : Nat} {u0 u1 u2 u3 : Value} : (am_call RC RS 4 mc ms P (u3 :: u2 :: u1 :: u0 :: st) D a kk) = (st.length ≤ 8 ∧ a.2.1 + mc ≤ RC ∧ a.2.2 + ms ≤ RS ∧ P [u0, u1, u2, u3] D a.1 (fun v D' N' => kk (v.toList ++ st) D' (N', a.2.1 + mc, a.2.2 + ms))) := by
  apply propext
  constructor
  · rintro ⟨h1, h2, h3, h4, h5⟩
    exact ⟨by simp at h2; omega, h3, h4, h5⟩
  · rintro ⟨h2, h3, h4, h5⟩
    exact ⟨by simp, by simp; omega, h3, h4, h5⟩
theorem am_ac_S5 {mc ms : Nat} {u0 u1 u2 u3 u4 : Value} : (am_call RC RS 5 mc ms P (u4 :: u3 :: u2 :: u1 :: u0 :: st) D a kk) = (st.length ≤ 8 ∧ a.2.1 + mc ≤ RC ∧ a.2.2 + ms ≤ RS ∧ P [u0, u1, u2, u3, u4] D a.1 (fun v D' N' => kk (v.toList ++ st) D' (N', a.2.1 + mc, a.2.2 + ms))) := by
  apply propext
  constructor
  · rintro ⟨h1, h2, h3, h4, h5⟩
    exact ⟨by simp at h2; omega, h3, h4, h5⟩
  · rintro ⟨h2, h3, h4, h5⟩
    exact ⟨by simp, by simp; omega, h3, h4, h5⟩
theorem ag_get {q : Nat × Nat} : (am_get sh q (.ref x :: st) D a kk) = (x < a.1 ∧ am_ob (sh x) q.1 fun ks => q.2 < ks.length ∧ kk (am_va (ks.getD q.2 0) (D x q.2) :: st) D a) := am_nr rfl
theorem ag_put {q : Nat × Nat} {v : Value} : (am_put sh q (v :: .ref x :: st) D a kk) = (x < a.1 ∧ am_ob (sh x) q.1 fun ks => q.2 < ks.length ∧ am_pv (ks.getD q.2 0) v fun z => kk st (am_up D x q.2 z) a) := am_nr rfl
theorem ag_astq {j : Int32} : (am_astq sh (.ref y :: .int j :: .ref x :: st) D a kk) = (0 < y ∧ y < 2 ^ 31 ∧ x < a.1 ∧ am_ob (sh y) 1 fun _ => am_ar (sh x) 2 fun z => vp_in j z ∧ kk st (am_up D x j.toNatClampNeg (Int32.ofNat y)) a) := am_nr rfl
theorem ag_ob {ci : Nat} {ks : List Nat} {c : List Nat → Prop} : (am_ob (.inl (c0, ks)) ci c) = (c0 = ci ∧ c ks) := am_nr rfl
theorem ag_ar {t z : Nat} {c : Nat → Prop} : (am_ar (.inr (c0, z)) t c) = (c0 = t ∧ c z) := am_nr rfl
theorem ag_sel2 {z : Nat} {A B : Prop} : (am_sel (.inr (2, z)) A B) = (A) := am_nr rfl
theorem ag_sel3 {z : Nat} {A B : Prop} : (am_sel (.inr (3, z)) A B) = (B) := am_nr rfl
theorem ag_new {ci : Nat} : (am_new sh RC RS ci st D a kk) = (am_ob (sh a.1) ci fun ks => (ks.all fun k => decide (k ≤ 2)) = true ∧ a.2.1 + 1 ≤ RC ∧ a.2.2 + ks.length ≤ RS ∧ kk (.ref a.1 :: st) (am_z D a.1) (a.1 + 1, a.2.1 + 1, a.2.2 + ks.length)) := am_nr rfl
theorem ag_newa {t : Nat} {n : Int32} : (am_newa sh RC RS t (.int n :: st) D a kk) = (am_ar (sh a.1) t fun z => z = n.toNatClampNeg ∧ ¬ n < 0 ∧ z ≤ 10000 ∧ a.2.1 + 1 ≤ RC ∧ a.2.2 + z ≤ RS ∧ kk (.ref a.1 :: st) (am_z D a.1) (a.1 + 1, a.2.1 + 1, a.2.2 + z)) := am_nr rfl
theorem ag_va0 {z : Int32} : (am_va 0 z) = (.int z) := am_nr rfl
theorem ag_va1 {z : Int32} : (am_va 1 z) = (.int z) := am_nr rfl
theorem ag_va2 {z : Int32} : (am_va 2 z) = (am_rf z) := am_nr rfl
theorem ag_va3 {z : Int32} {c : Nat} : (am_va (c + 3) z) = (.ref c) := am_nr rfl
theorem ag_pv0 {z : Int32} {c : Int32 → Prop} : (am_pv 0 (.int z) c) = (c z) := am_nr rfl
theorem ag_pv1 {z : Int32} {c : Int32 → Prop} : (am_pv 1 (.int z) c) = ((z = 0 ∨ z = 1) ∧ c z) := am_nr rfl
theorem ag_pv2 {c : Int32 → Prop} : (am_pv 2 (.ref x) c) = (0 < x ∧ x < 2 ^ 31 ∧ c (Int32.ofNat x)) := am_nr rfl
theorem ag_rcv0  : (am_rcv0 (.ref x :: st)) = (True) := am_nr rfl
variable {N : Nat} {c : Option Value → am_D → Nat → Prop} {mc ms : Nat}
theorem ar_n  : (am_Qr none mc ms N c none D a) = (a.2.1 ≤ mc ∧ a.2.2 ≤ ms ∧ c none D a.1 ∧ N ≤ a.1) := am_nr (by show (_ ∧ _) = _; simp [am_ro])
theorem ar_i {z : Int32} : (am_Qr (some .int) mc ms N c (some (.int z)) D a) = (a.2.1 ≤ mc ∧ a.2.2 ≤ ms ∧ c (some (.int z)) D a.1 ∧ N ≤ a.1) := am_nr (by show (_ ∧ _) = _; simp [am_ro])
theorem ar_b {z : Int32} : (am_Qr (some .boolean) mc ms N c (some (.int z)) D a) = ((z = 0 ∨ z = 1) ∧ a.2.1 ≤ mc ∧ a.2.2 ≤ ms ∧ c (some (.int z)) D a.1 ∧ N ≤ a.1) := am_nr (by show (_ ∧ _) = _; simp [am_ro])
theorem ar_o {C : String} : (am_Qr (some (.object C)) mc ms N c (some (.ref x)) D a) = (a.2.1 ≤ mc ∧ a.2.2 ≤ ms ∧ c (some (.ref x)) D a.1 ∧ N ≤ a.1) := am_nr (by show (_ ∧ _) = _; simp [am_ro])
end AME
theorem af_X0_9_g {L : Nat} {st : List Value} {D : am_D} {a : am_A} {kk : List Value → am_D → am_A → Prop} : (am_get (sd_sh L) (flX0 9) (.ref 9 :: st) D a kk) = (9 < a.1 ∧ kk (.ref 10 :: st) D a) := propext ⟨fun h => (fun h : 9 < a.1 ∧ (0 = 0 ∧ (0 < 3 ∧ kk (.ref 10 :: st) D a)) => ⟨h.1, h.2.2.2⟩) h, fun h => (show 9 < a.1 ∧ (0 = 0 ∧ (0 < 3 ∧ kk (.ref 10 :: st) D a)) from ⟨h.1, rfl, (by decide), h.2⟩)⟩
theorem af_X0_15_g {L : Nat} {st : List Value} {D : am_D} {a : am_A} {kk : List Value → am_D → am_A → Prop} : (am_get (sd_sh L) (flX0 15) (.ref 9 :: st) D a kk) = (9 < a.1 ∧ kk (.ref 11 :: st) D a) := propext ⟨fun h => (fun h : 9 < a.1 ∧ (0 = 0 ∧ (1 < 3 ∧ kk (.ref 11 :: st) D a)) => ⟨h.1, h.2.2.2⟩) h, fun h => (show 9 < a.1 ∧ (0 = 0 ∧ (1 < 3 ∧ kk (.ref 11 :: st) D a)) from ⟨h.1, rfl, (by decide), h.2⟩)⟩
theorem af_X0_18_g {L : Nat} {st : List Value} {D : am_D} {a : am_A} {kk : List Value → am_D → am_A → Prop} : (am_get (sd_sh L) (flX0 18) (.ref 9 :: st) D a kk) = (9 < a.1 ∧ kk (.int (D 9 2) :: st) D a) := propext ⟨fun h => (fun h : 9 < a.1 ∧ (0 = 0 ∧ (2 < 3 ∧ kk (.int (D 9 2) :: st) D a)) => ⟨h.1, h.2.2.2⟩) h, fun h => (show 9 < a.1 ∧ (0 = 0 ∧ (2 < 3 ∧ kk (.int (D 9 2) :: st) D a)) from ⟨h.1, rfl, (by decide), h.2⟩)⟩
theorem af_X0_18_p {L : Nat} {st : List Value} {D : am_D} {a : am_A} {kk : List Value → am_D → am_A → Prop} {z : Int32} : (am_put (sd_sh L) (flX0 18) (.int z :: .ref 9 :: st) D a kk) = (9 < a.1 ∧ kk st (am_up D 9 2 z) a) := propext ⟨fun h => (fun h : 9 < a.1 ∧ (0 = 0 ∧ (2 < 3 ∧ kk st (am_up D 9 2 z) a)) => ⟨h.1, h.2.2.2⟩) h, fun h => (show 9 < a.1 ∧ (0 = 0 ∧ (2 < 3 ∧ kk st (am_up D 9 2 z) a)) from ⟨h.1, rfl, (by decide), h.2⟩)⟩
theorem af_X1_9_g {L : Nat} {i : Nat} {st : List Value} {D : am_D} {a : am_A} {kk : List Value → am_D → am_A → Prop} : (am_get (sd_sh L) (flX1 9) (.ref (sd_rn i) :: st) D a kk) = ((sd_rn i) < a.1 ∧ kk (.int (D (sd_rn i) 0) :: st) D a) := by
  have e : (am_get (sd_sh L) (flX1 9) (.ref (sd_rn i) :: st) D a kk) = ((sd_rn i) < a.1 ∧ (1 = 1 ∧ (0 < 8 ∧ kk (.int (D (sd_rn i) 0) :: st) D a))) := by
    show (_ ∧ am_ob (sd_sh L (sd_rn i)) _ _) = _
    rw [sd_sh_rn]
    rfl
  rw [e]
  exact propext ⟨fun h => ⟨h.1, h.2.2.2⟩, fun h => ⟨h.1, rfl, (by decide), h.2⟩⟩
theorem af_X1_9_p {L : Nat} {i : Nat} {st : List Value} {D : am_D} {a : am_A} {kk : List Value → am_D → am_A → Prop} {z : Int32} : (am_put (sd_sh L) (flX1 9) (.int z :: .ref (sd_rn i) :: st) D a kk) = ((sd_rn i) < a.1 ∧ kk st (am_up D (sd_rn i) 0 z) a) := by
  have e : (am_put (sd_sh L) (flX1 9) (.int z :: .ref (sd_rn i) :: st) D a kk) = ((sd_rn i) < a.1 ∧ (1 = 1 ∧ (0 < 8 ∧ kk st (am_up D (sd_rn i) 0 z) a))) := by
    show (_ ∧ am_ob (sd_sh L (sd_rn i)) _ _) = _
    rw [sd_sh_rn]
    rfl
  rw [e]
  exact propext ⟨fun h => ⟨h.1, h.2.2.2⟩, fun h => ⟨h.1, rfl, (by decide), h.2⟩⟩
theorem af_X1_15_g {L : Nat} {i : Nat} {st : List Value} {D : am_D} {a : am_A} {kk : List Value → am_D → am_A → Prop} : (am_get (sd_sh L) (flX1 15) (.ref (sd_rn i) :: st) D a kk) = ((sd_rn i) < a.1 ∧ kk (am_rf (D (sd_rn i) 1) :: st) D a) := by
  have e : (am_get (sd_sh L) (flX1 15) (.ref (sd_rn i) :: st) D a kk) = ((sd_rn i) < a.1 ∧ (1 = 1 ∧ (1 < 8 ∧ kk (am_rf (D (sd_rn i) 1) :: st) D a))) := by
    show (_ ∧ am_ob (sd_sh L (sd_rn i)) _ _) = _
    rw [sd_sh_rn]
    rfl
  rw [e]
  exact propext ⟨fun h => ⟨h.1, h.2.2.2⟩, fun h => ⟨h.1, rfl, (by decide), h.2⟩⟩
theorem af_X1_19_g {L : Nat} {i : Nat} {st : List Value} {D : am_D} {a : am_A} {kk : List Value → am_D → am_A → Prop} : (am_get (sd_sh L) (flX1 19) (.ref (sd_rn i) :: st) D a kk) = ((sd_rn i) < a.1 ∧ kk (.int (D (sd_rn i) 2) :: st) D a) := by
  have e : (am_get (sd_sh L) (flX1 19) (.ref (sd_rn i) :: st) D a kk) = ((sd_rn i) < a.1 ∧ (1 = 1 ∧ (2 < 8 ∧ kk (.int (D (sd_rn i) 2) :: st) D a))) := by
    show (_ ∧ am_ob (sd_sh L (sd_rn i)) _ _) = _
    rw [sd_sh_rn]
    rfl
  rw [e]
  exact propext ⟨fun h => ⟨h.1, h.2.2.2⟩, fun h => ⟨h.1, rfl, (by decide), h.2⟩⟩
theorem af_X1_19_p {L : Nat} {i : Nat} {st : List Value} {D : am_D} {a : am_A} {kk : List Value → am_D → am_A → Prop} {z : Int32} : (am_put (sd_sh L) (flX1 19) (.int z :: .ref (sd_rn i) :: st) D a kk) = ((sd_rn i) < a.1 ∧ kk st (am_up D (sd_rn i) 2 z) a) := by
  have e : (am_put (sd_sh L) (flX1 19) (.int z :: .ref (sd_rn i) :: st) D a kk) = ((sd_rn i) < a.1 ∧ (1 = 1 ∧ (2 < 8 ∧ kk st (am_up D (sd_rn i) 2 z) a))) := by
    show (_ ∧ am_ob (sd_sh L (sd_rn i)) _ _) = _
    rw [sd_sh_rn]
    rfl
  rw [e]
  exact propext ⟨fun h => ⟨h.1, h.2.2.2⟩, fun h => ⟨h.1, rfl, (by decide), h.2⟩⟩
theorem af_X1_22_g {L : Nat} {i : Nat} {st : List Value} {D : am_D} {a : am_A} {kk : List Value → am_D → am_A → Prop} : (am_get (sd_sh L) (flX1 22) (.ref (sd_rn i) :: st) D a kk) = ((sd_rn i) < a.1 ∧ kk (.int (D (sd_rn i) 3) :: st) D a) := by
  have e : (am_get (sd_sh L) (flX1 22) (.ref (sd_rn i) :: st) D a kk) = ((sd_rn i) < a.1 ∧ (1 = 1 ∧ (3 < 8 ∧ kk (.int (D (sd_rn i) 3) :: st) D a))) := by
    show (_ ∧ am_ob (sd_sh L (sd_rn i)) _ _) = _
    rw [sd_sh_rn]
    rfl
  rw [e]
  exact propext ⟨fun h => ⟨h.1, h.2.2.2⟩, fun h => ⟨h.1, rfl, (by decide), h.2⟩⟩
theorem af_X1_22_p {L : Nat} {i : Nat} {st : List Value} {D : am_D} {a : am_A} {kk : List Value → am_D → am_A → Prop} {z : Int32} : (am_put (sd_sh L) (flX1 22) (.int z :: .ref (sd_rn i) :: st) D a kk) = ((sd_rn i) < a.1 ∧ kk st (am_up D (sd_rn i) 3 z) a) := by
  have e : (am_put (sd_sh L) (flX1 22) (.int z :: .ref (sd_rn i) :: st) D a kk) = ((sd_rn i) < a.1 ∧ (1 = 1 ∧ (3 < 8 ∧ kk st (am_up D (sd_rn i) 3 z) a))) := by
    show (_ ∧ am_ob (sd_sh L (sd_rn i)) _ _) = _
    rw [sd_sh_rn]
    rfl
  rw [e]
  exact propext ⟨fun h => ⟨h.1, h.2.2.2⟩, fun h => ⟨h.1, rfl, (by decide), h.2⟩⟩
theorem af_X1_25_g {L : Nat} {i : Nat} {st : List Value} {D : am_D} {a : am_A} {kk : List Value → am_D → am_A → Prop} : (am_get (sd_sh L) (flX1 25) (.ref (sd_rn i) :: st) D a kk) = ((sd_rn i) < a.1 ∧ kk (.int (D (sd_rn i) 4) :: st) D a) := by
  have e : (am_get (sd_sh L) (flX1 25) (.ref (sd_rn i) :: st) D a kk) = ((sd_rn i) < a.1 ∧ (1 = 1 ∧ (4 < 8 ∧ kk (.int (D (sd_rn i) 4) :: st) D a))) := by
    show (_ ∧ am_ob (sd_sh L (sd_rn i)) _ _) = _
    rw [sd_sh_rn]
    rfl
  rw [e]
  exact propext ⟨fun h => ⟨h.1, h.2.2.2⟩, fun h => ⟨h.1, rfl, (by decide), h.2⟩⟩
theorem af_X1_25_p {L : Nat} {i : Nat} {st : List Value} {D : am_D} {a : am_A} {kk : List Value → am_D → am_A → Prop} {z : Int32} : (am_put (sd_sh L) (flX1 25) (.int z :: .ref (sd_rn i) :: st) D a kk) = ((sd_rn i) < a.1 ∧ kk st (am_up D (sd_rn i) 4 z) a) := by
  have e : (am_put (sd_sh L) (flX1 25) (.int z :: .ref (sd_rn i) :: st) D a kk) = ((sd_rn i) < a.1 ∧ (1 = 1 ∧ (4 < 8 ∧ kk st (am_up D (sd_rn i) 4 z) a))) := by
    show (_ ∧ am_ob (sd_sh L (sd_rn i)) _ _) = _
    rw [sd_sh_rn]
    rfl
  rw [e]
  exact propext ⟨fun h => ⟨h.1, h.2.2.2⟩, fun h => ⟨h.1, rfl, (by decide), h.2⟩⟩
theorem af_X1_28_g {L : Nat} {i : Nat} {st : List Value} {D : am_D} {a : am_A} {kk : List Value → am_D → am_A → Prop} : (am_get (sd_sh L) (flX1 28) (.ref (sd_rn i) :: st) D a kk) = ((sd_rn i) < a.1 ∧ kk (.int (D (sd_rn i) 5) :: st) D a) := by
  have e : (am_get (sd_sh L) (flX1 28) (.ref (sd_rn i) :: st) D a kk) = ((sd_rn i) < a.1 ∧ (1 = 1 ∧ (5 < 8 ∧ kk (.int (D (sd_rn i) 5) :: st) D a))) := by
    show (_ ∧ am_ob (sd_sh L (sd_rn i)) _ _) = _
    rw [sd_sh_rn]
    rfl
  rw [e]
  exact propext ⟨fun h => ⟨h.1, h.2.2.2⟩, fun h => ⟨h.1, rfl, (by decide), h.2⟩⟩
theorem af_X1_28_p {L : Nat} {i : Nat} {st : List Value} {D : am_D} {a : am_A} {kk : List Value → am_D → am_A → Prop} {z : Int32} : (am_put (sd_sh L) (flX1 28) (.int z :: .ref (sd_rn i) :: st) D a kk) = ((sd_rn i) < a.1 ∧ kk st (am_up D (sd_rn i) 5 z) a) := by
  have e : (am_put (sd_sh L) (flX1 28) (.int z :: .ref (sd_rn i) :: st) D a kk) = ((sd_rn i) < a.1 ∧ (1 = 1 ∧ (5 < 8 ∧ kk st (am_up D (sd_rn i) 5 z) a))) := by
    show (_ ∧ am_ob (sd_sh L (sd_rn i)) _ _) = _
    rw [sd_sh_rn]
    rfl
  rw [e]
  exact propext ⟨fun h => ⟨h.1, h.2.2.2⟩, fun h => ⟨h.1, rfl, (by decide), h.2⟩⟩
theorem af_X1_31_g {L : Nat} {i : Nat} {st : List Value} {D : am_D} {a : am_A} {kk : List Value → am_D → am_A → Prop} : (am_get (sd_sh L) (flX1 31) (.ref (sd_rn i) :: st) D a kk) = ((sd_rn i) < a.1 ∧ kk (.int (D (sd_rn i) 6) :: st) D a) := by
  have e : (am_get (sd_sh L) (flX1 31) (.ref (sd_rn i) :: st) D a kk) = ((sd_rn i) < a.1 ∧ (1 = 1 ∧ (6 < 8 ∧ kk (.int (D (sd_rn i) 6) :: st) D a))) := by
    show (_ ∧ am_ob (sd_sh L (sd_rn i)) _ _) = _
    rw [sd_sh_rn]
    rfl
  rw [e]
  exact propext ⟨fun h => ⟨h.1, h.2.2.2⟩, fun h => ⟨h.1, rfl, (by decide), h.2⟩⟩
theorem af_X1_31_p {L : Nat} {i : Nat} {st : List Value} {D : am_D} {a : am_A} {kk : List Value → am_D → am_A → Prop} {z : Int32} : (am_put (sd_sh L) (flX1 31) (.int z :: .ref (sd_rn i) :: st) D a kk) = ((sd_rn i) < a.1 ∧ kk st (am_up D (sd_rn i) 6 z) a) := by
  have e : (am_put (sd_sh L) (flX1 31) (.int z :: .ref (sd_rn i) :: st) D a kk) = ((sd_rn i) < a.1 ∧ (1 = 1 ∧ (6 < 8 ∧ kk st (am_up D (sd_rn i) 6 z) a))) := by
    show (_ ∧ am_ob (sd_sh L (sd_rn i)) _ _) = _
    rw [sd_sh_rn]
    rfl
  rw [e]
  exact propext ⟨fun h => ⟨h.1, h.2.2.2⟩, fun h => ⟨h.1, rfl, (by decide), h.2⟩⟩
theorem af_X1_34_g {L : Nat} {i : Nat} {st : List Value} {D : am_D} {a : am_A} {kk : List Value → am_D → am_A → Prop} : (am_get (sd_sh L) (flX1 34) (.ref (sd_rn i) :: st) D a kk) = ((sd_rn i) < a.1 ∧ kk (.int (D (sd_rn i) 7) :: st) D a) := by
  have e : (am_get (sd_sh L) (flX1 34) (.ref (sd_rn i) :: st) D a kk) = ((sd_rn i) < a.1 ∧ (1 = 1 ∧ (7 < 8 ∧ kk (.int (D (sd_rn i) 7) :: st) D a))) := by
    show (_ ∧ am_ob (sd_sh L (sd_rn i)) _ _) = _
    rw [sd_sh_rn]
    rfl
  rw [e]
  exact propext ⟨fun h => ⟨h.1, h.2.2.2⟩, fun h => ⟨h.1, rfl, (by decide), h.2⟩⟩
theorem af_X1_34_p {L : Nat} {i : Nat} {st : List Value} {D : am_D} {a : am_A} {kk : List Value → am_D → am_A → Prop} {z : Int32} : (am_put (sd_sh L) (flX1 34) (.int z :: .ref (sd_rn i) :: st) D a kk) = ((sd_rn i) < a.1 ∧ (z = 0 ∨ z = 1) ∧ kk st (am_up D (sd_rn i) 7 z) a) := by
  have e : (am_put (sd_sh L) (flX1 34) (.int z :: .ref (sd_rn i) :: st) D a kk) = ((sd_rn i) < a.1 ∧ (1 = 1 ∧ (7 < 8 ∧ (z = 0 ∨ z = 1) ∧ kk st (am_up D (sd_rn i) 7 z) a))) := by
    show (_ ∧ am_ob (sd_sh L (sd_rn i)) _ _) = _
    rw [sd_sh_rn]
    rfl
  rw [e]
  exact propext ⟨fun h => ⟨h.1, h.2.2.2⟩, fun h => ⟨h.1, rfl, (by decide), h.2⟩⟩
theorem af_X2_9_g {L : Nat} {st : List Value} {D : am_D} {a : am_A} {kk : List Value → am_D → am_A → Prop} : (am_get (sd_sh L) (flX2 9) (.ref 1 :: st) D a kk) = (1 < a.1 ∧ kk (.ref 2 :: st) D a) := propext ⟨fun h => (fun h : 1 < a.1 ∧ (2 = 2 ∧ (2 < 10 ∧ kk (.ref 2 :: st) D a)) => ⟨h.1, h.2.2.2⟩) h, fun h => (show 1 < a.1 ∧ (2 = 2 ∧ (2 < 10 ∧ kk (.ref 2 :: st) D a)) from ⟨h.1, rfl, (by decide), h.2⟩)⟩
theorem af_X2_15_g {L : Nat} {st : List Value} {D : am_D} {a : am_A} {kk : List Value → am_D → am_A → Prop} : (am_get (sd_sh L) (flX2 15) (.ref 1 :: st) D a kk) = (1 < a.1 ∧ kk (.ref 3 :: st) D a) := propext ⟨fun h => (fun h : 1 < a.1 ∧ (2 = 2 ∧ (3 < 10 ∧ kk (.ref 3 :: st) D a)) => ⟨h.1, h.2.2.2⟩) h, fun h => (show 1 < a.1 ∧ (2 = 2 ∧ (3 < 10 ∧ kk (.ref 3 :: st) D a)) from ⟨h.1, rfl, (by decide), h.2⟩)⟩
theorem af_X2_18_g {L : Nat} {st : List Value} {D : am_D} {a : am_A} {kk : List Value → am_D → am_A → Prop} : (am_get (sd_sh L) (flX2 18) (.ref 1 :: st) D a kk) = (1 < a.1 ∧ kk (.ref 4 :: st) D a) := propext ⟨fun h => (fun h : 1 < a.1 ∧ (2 = 2 ∧ (4 < 10 ∧ kk (.ref 4 :: st) D a)) => ⟨h.1, h.2.2.2⟩) h, fun h => (show 1 < a.1 ∧ (2 = 2 ∧ (4 < 10 ∧ kk (.ref 4 :: st) D a)) from ⟨h.1, rfl, (by decide), h.2⟩)⟩
theorem af_X2_21_g {L : Nat} {st : List Value} {D : am_D} {a : am_A} {kk : List Value → am_D → am_A → Prop} : (am_get (sd_sh L) (flX2 21) (.ref 1 :: st) D a kk) = (1 < a.1 ∧ kk (.ref 5 :: st) D a) := propext ⟨fun h => (fun h : 1 < a.1 ∧ (2 = 2 ∧ (5 < 10 ∧ kk (.ref 5 :: st) D a)) => ⟨h.1, h.2.2.2⟩) h, fun h => (show 1 < a.1 ∧ (2 = 2 ∧ (5 < 10 ∧ kk (.ref 5 :: st) D a)) from ⟨h.1, rfl, (by decide), h.2⟩)⟩
theorem af_X2_24_g {L : Nat} {st : List Value} {D : am_D} {a : am_A} {kk : List Value → am_D → am_A → Prop} : (am_get (sd_sh L) (flX2 24) (.ref 1 :: st) D a kk) = (1 < a.1 ∧ kk (.ref 6 :: st) D a) := propext ⟨fun h => (fun h : 1 < a.1 ∧ (2 = 2 ∧ (6 < 10 ∧ kk (.ref 6 :: st) D a)) => ⟨h.1, h.2.2.2⟩) h, fun h => (show 1 < a.1 ∧ (2 = 2 ∧ (6 < 10 ∧ kk (.ref 6 :: st) D a)) from ⟨h.1, rfl, (by decide), h.2⟩)⟩
theorem af_X2_27_g {L : Nat} {st : List Value} {D : am_D} {a : am_A} {kk : List Value → am_D → am_A → Prop} : (am_get (sd_sh L) (flX2 27) (.ref 1 :: st) D a kk) = (1 < a.1 ∧ kk (.ref 7 :: st) D a) := propext ⟨fun h => (fun h : 1 < a.1 ∧ (2 = 2 ∧ (8 < 10 ∧ kk (.ref 7 :: st) D a)) => ⟨h.1, h.2.2.2⟩) h, fun h => (show 1 < a.1 ∧ (2 = 2 ∧ (8 < 10 ∧ kk (.ref 7 :: st) D a)) from ⟨h.1, rfl, (by decide), h.2⟩)⟩
theorem af_X2_31_g {L : Nat} {st : List Value} {D : am_D} {a : am_A} {kk : List Value → am_D → am_A → Prop} : (am_get (sd_sh L) (flX2 31) (.ref 1 :: st) D a kk) = (1 < a.1 ∧ kk (.ref 8 :: st) D a) := propext ⟨fun h => (fun h : 1 < a.1 ∧ (2 = 2 ∧ (9 < 10 ∧ kk (.ref 8 :: st) D a)) => ⟨h.1, h.2.2.2⟩) h, fun h => (show 1 < a.1 ∧ (2 = 2 ∧ (9 < 10 ∧ kk (.ref 8 :: st) D a)) from ⟨h.1, rfl, (by decide), h.2⟩)⟩
theorem af_X2_34_g {L : Nat} {st : List Value} {D : am_D} {a : am_A} {kk : List Value → am_D → am_A → Prop} : (am_get (sd_sh L) (flX2 34) (.ref 1 :: st) D a kk) = (1 < a.1 ∧ kk (.int (D 1 0) :: st) D a) := propext ⟨fun h => (fun h : 1 < a.1 ∧ (2 = 2 ∧ (0 < 10 ∧ kk (.int (D 1 0) :: st) D a)) => ⟨h.1, h.2.2.2⟩) h, fun h => (show 1 < a.1 ∧ (2 = 2 ∧ (0 < 10 ∧ kk (.int (D 1 0) :: st) D a)) from ⟨h.1, rfl, (by decide), h.2⟩)⟩
theorem af_X2_34_p {L : Nat} {st : List Value} {D : am_D} {a : am_A} {kk : List Value → am_D → am_A → Prop} {z : Int32} : (am_put (sd_sh L) (flX2 34) (.int z :: .ref 1 :: st) D a kk) = (1 < a.1 ∧ kk st (am_up D 1 0 z) a) := propext ⟨fun h => (fun h : 1 < a.1 ∧ (2 = 2 ∧ (0 < 10 ∧ kk st (am_up D 1 0 z) a)) => ⟨h.1, h.2.2.2⟩) h, fun h => (show 1 < a.1 ∧ (2 = 2 ∧ (0 < 10 ∧ kk st (am_up D 1 0 z) a)) from ⟨h.1, rfl, (by decide), h.2⟩)⟩
theorem af_X2_38_g {L : Nat} {st : List Value} {D : am_D} {a : am_A} {kk : List Value → am_D → am_A → Prop} : (am_get (sd_sh L) (flX2 38) (.ref 1 :: st) D a kk) = (1 < a.1 ∧ kk (.int (D 1 7) :: st) D a) := propext ⟨fun h => (fun h : 1 < a.1 ∧ (2 = 2 ∧ (7 < 10 ∧ kk (.int (D 1 7) :: st) D a)) => ⟨h.1, h.2.2.2⟩) h, fun h => (show 1 < a.1 ∧ (2 = 2 ∧ (7 < 10 ∧ kk (.int (D 1 7) :: st) D a)) from ⟨h.1, rfl, (by decide), h.2⟩)⟩
theorem af_X2_38_p {L : Nat} {st : List Value} {D : am_D} {a : am_A} {kk : List Value → am_D → am_A → Prop} {z : Int32} : (am_put (sd_sh L) (flX2 38) (.int z :: .ref 1 :: st) D a kk) = (1 < a.1 ∧ kk st (am_up D 1 7 z) a) := propext ⟨fun h => (fun h : 1 < a.1 ∧ (2 = 2 ∧ (7 < 10 ∧ kk st (am_up D 1 7 z) a)) => ⟨h.1, h.2.2.2⟩) h, fun h => (show 1 < a.1 ∧ (2 = 2 ∧ (7 < 10 ∧ kk st (am_up D 1 7 z) a)) from ⟨h.1, rfl, (by decide), h.2⟩)⟩
theorem af_X2_41_g {L : Nat} {st : List Value} {D : am_D} {a : am_A} {kk : List Value → am_D → am_A → Prop} : (am_get (sd_sh L) (flX2 41) (.ref 1 :: st) D a kk) = (1 < a.1 ∧ kk (.int (D 1 1) :: st) D a) := propext ⟨fun h => (fun h : 1 < a.1 ∧ (2 = 2 ∧ (1 < 10 ∧ kk (.int (D 1 1) :: st) D a)) => ⟨h.1, h.2.2.2⟩) h, fun h => (show 1 < a.1 ∧ (2 = 2 ∧ (1 < 10 ∧ kk (.int (D 1 1) :: st) D a)) from ⟨h.1, rfl, (by decide), h.2⟩)⟩
theorem af_X2_41_p {L : Nat} {st : List Value} {D : am_D} {a : am_A} {kk : List Value → am_D → am_A → Prop} {z : Int32} : (am_put (sd_sh L) (flX2 41) (.int z :: .ref 1 :: st) D a kk) = (1 < a.1 ∧ kk st (am_up D 1 1 z) a) := propext ⟨fun h => (fun h : 1 < a.1 ∧ (2 = 2 ∧ (1 < 10 ∧ kk st (am_up D 1 1 z) a)) => ⟨h.1, h.2.2.2⟩) h, fun h => (show 1 < a.1 ∧ (2 = 2 ∧ (1 < 10 ∧ kk st (am_up D 1 1 z) a)) from ⟨h.1, rfl, (by decide), h.2⟩)⟩
theorem af_X2_66_g {L : Nat} {i : Nat} {st : List Value} {D : am_D} {a : am_A} {kk : List Value → am_D → am_A → Prop} : (am_get (sd_sh L) (flX2 66) (.ref (sd_rn i) :: st) D a kk) = ((sd_rn i) < a.1 ∧ kk (.int (D (sd_rn i) 4) :: st) D a) := by
  have e : (am_get (sd_sh L) (flX2 66) (.ref (sd_rn i) :: st) D a kk) = ((sd_rn i) < a.1 ∧ (1 = 1 ∧ (4 < 8 ∧ kk (.int (D (sd_rn i) 4) :: st) D a))) := by
    show (_ ∧ am_ob (sd_sh L (sd_rn i)) _ _) = _
    rw [sd_sh_rn]
    rfl
  rw [e]
  exact propext ⟨fun h => ⟨h.1, h.2.2.2⟩, fun h => ⟨h.1, rfl, (by decide), h.2⟩⟩
theorem af_X2_66_p {L : Nat} {i : Nat} {st : List Value} {D : am_D} {a : am_A} {kk : List Value → am_D → am_A → Prop} {z : Int32} : (am_put (sd_sh L) (flX2 66) (.int z :: .ref (sd_rn i) :: st) D a kk) = ((sd_rn i) < a.1 ∧ kk st (am_up D (sd_rn i) 4 z) a) := by
  have e : (am_put (sd_sh L) (flX2 66) (.int z :: .ref (sd_rn i) :: st) D a kk) = ((sd_rn i) < a.1 ∧ (1 = 1 ∧ (4 < 8 ∧ kk st (am_up D (sd_rn i) 4 z) a))) := by
    show (_ ∧ am_ob (sd_sh L (sd_rn i)) _ _) = _
    rw [sd_sh_rn]
    rfl
  rw [e]
  exact propext ⟨fun h => ⟨h.1, h.2.2.2⟩, fun h => ⟨h.1, rfl, (by decide), h.2⟩⟩
theorem af_X2_72_g {L : Nat} {i : Nat} {st : List Value} {D : am_D} {a : am_A} {kk : List Value → am_D → am_A → Prop} : (am_get (sd_sh L) (flX2 72) (.ref (sd_rn i) :: st) D a kk) = ((sd_rn i) < a.1 ∧ kk (.int (D (sd_rn i) 3) :: st) D a) := by
  have e : (am_get (sd_sh L) (flX2 72) (.ref (sd_rn i) :: st) D a kk) = ((sd_rn i) < a.1 ∧ (1 = 1 ∧ (3 < 8 ∧ kk (.int (D (sd_rn i) 3) :: st) D a))) := by
    show (_ ∧ am_ob (sd_sh L (sd_rn i)) _ _) = _
    rw [sd_sh_rn]
    rfl
  rw [e]
  exact propext ⟨fun h => ⟨h.1, h.2.2.2⟩, fun h => ⟨h.1, rfl, (by decide), h.2⟩⟩
theorem af_X2_72_p {L : Nat} {i : Nat} {st : List Value} {D : am_D} {a : am_A} {kk : List Value → am_D → am_A → Prop} {z : Int32} : (am_put (sd_sh L) (flX2 72) (.int z :: .ref (sd_rn i) :: st) D a kk) = ((sd_rn i) < a.1 ∧ kk st (am_up D (sd_rn i) 3 z) a) := by
  have e : (am_put (sd_sh L) (flX2 72) (.int z :: .ref (sd_rn i) :: st) D a kk) = ((sd_rn i) < a.1 ∧ (1 = 1 ∧ (3 < 8 ∧ kk st (am_up D (sd_rn i) 3 z) a))) := by
    show (_ ∧ am_ob (sd_sh L (sd_rn i)) _ _) = _
    rw [sd_sh_rn]
    rfl
  rw [e]
  exact propext ⟨fun h => ⟨h.1, h.2.2.2⟩, fun h => ⟨h.1, rfl, (by decide), h.2⟩⟩
theorem af_X3_9_g {L : Nat} {st : List Value} {D : am_D} {a : am_A} {kk : List Value → am_D → am_A → Prop} : (am_get (sd_sh L) (flX3 9) (.ref 0 :: st) D a kk) = (0 < a.1 ∧ kk (.int (D 0 0) :: st) D a) := propext ⟨fun h => (fun h : 0 < a.1 ∧ (3 = 3 ∧ (0 < 10 ∧ kk (.int (D 0 0) :: st) D a)) => ⟨h.1, h.2.2.2⟩) h, fun h => (show 0 < a.1 ∧ (3 = 3 ∧ (0 < 10 ∧ kk (.int (D 0 0) :: st) D a)) from ⟨h.1, rfl, (by decide), h.2⟩)⟩
theorem af_X3_9_p {L : Nat} {st : List Value} {D : am_D} {a : am_A} {kk : List Value → am_D → am_A → Prop} {z : Int32} : (am_put (sd_sh L) (flX3 9) (.int z :: .ref 0 :: st) D a kk) = (0 < a.1 ∧ kk st (am_up D 0 0 z) a) := propext ⟨fun h => (fun h : 0 < a.1 ∧ (3 = 3 ∧ (0 < 10 ∧ kk st (am_up D 0 0 z) a)) => ⟨h.1, h.2.2.2⟩) h, fun h => (show 0 < a.1 ∧ (3 = 3 ∧ (0 < 10 ∧ kk st (am_up D 0 0 z) a)) from ⟨h.1, rfl, (by decide), h.2⟩)⟩
theorem af_X3_18_g {L : Nat} {st : List Value} {D : am_D} {a : am_A} {kk : List Value → am_D → am_A → Prop} : (am_get (sd_sh L) (flX3 18) (.ref 0 :: st) D a kk) = (0 < a.1 ∧ kk (.ref 1 :: st) D a) := propext ⟨fun h => (fun h : 0 < a.1 ∧ (3 = 3 ∧ (1 < 10 ∧ kk (.ref 1 :: st) D a)) => ⟨h.1, h.2.2.2⟩) h, fun h => (show 0 < a.1 ∧ (3 = 3 ∧ (1 < 10 ∧ kk (.ref 1 :: st) D a)) from ⟨h.1, rfl, (by decide), h.2⟩)⟩
theorem af_X3_25_g {L : Nat} {st : List Value} {D : am_D} {a : am_A} {kk : List Value → am_D → am_A → Prop} : (am_get (sd_sh L) (flX3 25) (.ref 0 :: st) D a kk) = (0 < a.1 ∧ kk (.ref 9 :: st) D a) := propext ⟨fun h => (fun h : 0 < a.1 ∧ (3 = 3 ∧ (2 < 10 ∧ kk (.ref 9 :: st) D a)) => ⟨h.1, h.2.2.2⟩) h, fun h => (show 0 < a.1 ∧ (3 = 3 ∧ (2 < 10 ∧ kk (.ref 9 :: st) D a)) from ⟨h.1, rfl, (by decide), h.2⟩)⟩
theorem af_X3_31_g {L : Nat} {st : List Value} {D : am_D} {a : am_A} {kk : List Value → am_D → am_A → Prop} : (am_get (sd_sh L) (flX3 31) (.ref 0 :: st) D a kk) = (0 < a.1 ∧ kk (.ref 12 :: st) D a) := propext ⟨fun h => (fun h : 0 < a.1 ∧ (3 = 3 ∧ (3 < 10 ∧ kk (.ref 12 :: st) D a)) => ⟨h.1, h.2.2.2⟩) h, fun h => (show 0 < a.1 ∧ (3 = 3 ∧ (3 < 10 ∧ kk (.ref 12 :: st) D a)) from ⟨h.1, rfl, (by decide), h.2⟩)⟩
theorem af_X3_37_g {L : Nat} {st : List Value} {D : am_D} {a : am_A} {kk : List Value → am_D → am_A → Prop} : (am_get (sd_sh L) (flX3 37) (.ref 0 :: st) D a kk) = (0 < a.1 ∧ kk (.ref 13 :: st) D a) := propext ⟨fun h => (fun h : 0 < a.1 ∧ (3 = 3 ∧ (5 < 10 ∧ kk (.ref 13 :: st) D a)) => ⟨h.1, h.2.2.2⟩) h, fun h => (show 0 < a.1 ∧ (3 = 3 ∧ (5 < 10 ∧ kk (.ref 13 :: st) D a)) from ⟨h.1, rfl, (by decide), h.2⟩)⟩
theorem af_X3_40_g {L : Nat} {st : List Value} {D : am_D} {a : am_A} {kk : List Value → am_D → am_A → Prop} : (am_get (sd_sh L) (flX3 40) (.ref 0 :: st) D a kk) = (0 < a.1 ∧ kk (.ref 18 :: st) D a) := propext ⟨fun h => (fun h : 0 < a.1 ∧ (3 = 3 ∧ (7 < 10 ∧ kk (.ref 18 :: st) D a)) => ⟨h.1, h.2.2.2⟩) h, fun h => (show 0 < a.1 ∧ (3 = 3 ∧ (7 < 10 ∧ kk (.ref 18 :: st) D a)) from ⟨h.1, rfl, (by decide), h.2⟩)⟩
theorem af_X3_43_g {L : Nat} {st : List Value} {D : am_D} {a : am_A} {kk : List Value → am_D → am_A → Prop} : (am_get (sd_sh L) (flX3 43) (.ref 0 :: st) D a kk) = (0 < a.1 ∧ kk (.ref 19 :: st) D a) := propext ⟨fun h => (fun h : 0 < a.1 ∧ (3 = 3 ∧ (8 < 10 ∧ kk (.ref 19 :: st) D a)) => ⟨h.1, h.2.2.2⟩) h, fun h => (show 0 < a.1 ∧ (3 = 3 ∧ (8 < 10 ∧ kk (.ref 19 :: st) D a)) from ⟨h.1, rfl, (by decide), h.2⟩)⟩
theorem af_X3_47_g {L : Nat} {st : List Value} {D : am_D} {a : am_A} {kk : List Value → am_D → am_A → Prop} : (am_get (sd_sh L) (flX3 47) (.ref 0 :: st) D a kk) = (0 < a.1 ∧ kk (.ref 20 :: st) D a) := propext ⟨fun h => (fun h : 0 < a.1 ∧ (3 = 3 ∧ (9 < 10 ∧ kk (.ref 20 :: st) D a)) => ⟨h.1, h.2.2.2⟩) h, fun h => (show 0 < a.1 ∧ (3 = 3 ∧ (9 < 10 ∧ kk (.ref 20 :: st) D a)) from ⟨h.1, rfl, (by decide), h.2⟩)⟩
theorem af_X3_67_g {L : Nat} {st : List Value} {D : am_D} {a : am_A} {kk : List Value → am_D → am_A → Prop} : (am_get (sd_sh L) (flX3 67) (.ref 1 :: st) D a kk) = (1 < a.1 ∧ kk (.ref 4 :: st) D a) := propext ⟨fun h => (fun h : 1 < a.1 ∧ (2 = 2 ∧ (4 < 10 ∧ kk (.ref 4 :: st) D a)) => ⟨h.1, h.2.2.2⟩) h, fun h => (show 1 < a.1 ∧ (2 = 2 ∧ (4 < 10 ∧ kk (.ref 4 :: st) D a)) from ⟨h.1, rfl, (by decide), h.2⟩)⟩
theorem af_X3_101_g {L : Nat} {st : List Value} {D : am_D} {a : am_A} {kk : List Value → am_D → am_A → Prop} : (am_get (sd_sh L) (flX3 101) (.ref 0 :: st) D a kk) = (0 < a.1 ∧ kk (.int (D 0 4) :: st) D a) := propext ⟨fun h => (fun h : 0 < a.1 ∧ (3 = 3 ∧ (4 < 10 ∧ kk (.int (D 0 4) :: st) D a)) => ⟨h.1, h.2.2.2⟩) h, fun h => (show 0 < a.1 ∧ (3 = 3 ∧ (4 < 10 ∧ kk (.int (D 0 4) :: st) D a)) from ⟨h.1, rfl, (by decide), h.2⟩)⟩
theorem af_X3_101_p {L : Nat} {st : List Value} {D : am_D} {a : am_A} {kk : List Value → am_D → am_A → Prop} {z : Int32} : (am_put (sd_sh L) (flX3 101) (.int z :: .ref 0 :: st) D a kk) = (0 < a.1 ∧ kk st (am_up D 0 4 z) a) := propext ⟨fun h => (fun h : 0 < a.1 ∧ (3 = 3 ∧ (4 < 10 ∧ kk st (am_up D 0 4 z) a)) => ⟨h.1, h.2.2.2⟩) h, fun h => (show 0 < a.1 ∧ (3 = 3 ∧ (4 < 10 ∧ kk st (am_up D 0 4 z) a)) from ⟨h.1, rfl, (by decide), h.2⟩)⟩
theorem af_X3_121_g {L : Nat} {i : Nat} {st : List Value} {D : am_D} {a : am_A} {kk : List Value → am_D → am_A → Prop} : (am_get (sd_sh L) (flX3 121) (.ref (sd_rn i) :: st) D a kk) = ((sd_rn i) < a.1 ∧ kk (.int (D (sd_rn i) 6) :: st) D a) := by
  have e : (am_get (sd_sh L) (flX3 121) (.ref (sd_rn i) :: st) D a kk) = ((sd_rn i) < a.1 ∧ (1 = 1 ∧ (6 < 8 ∧ kk (.int (D (sd_rn i) 6) :: st) D a))) := by
    show (_ ∧ am_ob (sd_sh L (sd_rn i)) _ _) = _
    rw [sd_sh_rn]
    rfl
  rw [e]
  exact propext ⟨fun h => ⟨h.1, h.2.2.2⟩, fun h => ⟨h.1, rfl, (by decide), h.2⟩⟩
theorem af_X3_121_p {L : Nat} {i : Nat} {st : List Value} {D : am_D} {a : am_A} {kk : List Value → am_D → am_A → Prop} {z : Int32} : (am_put (sd_sh L) (flX3 121) (.int z :: .ref (sd_rn i) :: st) D a kk) = ((sd_rn i) < a.1 ∧ kk st (am_up D (sd_rn i) 6 z) a) := by
  have e : (am_put (sd_sh L) (flX3 121) (.int z :: .ref (sd_rn i) :: st) D a kk) = ((sd_rn i) < a.1 ∧ (1 = 1 ∧ (6 < 8 ∧ kk st (am_up D (sd_rn i) 6 z) a))) := by
    show (_ ∧ am_ob (sd_sh L (sd_rn i)) _ _) = _
    rw [sd_sh_rn]
    rfl
  rw [e]
  exact propext ⟨fun h => ⟨h.1, h.2.2.2⟩, fun h => ⟨h.1, rfl, (by decide), h.2⟩⟩
theorem af_X3_131_g {L : Nat} {i : Nat} {st : List Value} {D : am_D} {a : am_A} {kk : List Value → am_D → am_A → Prop} : (am_get (sd_sh L) (flX3 131) (.ref (sd_rn i) :: st) D a kk) = ((sd_rn i) < a.1 ∧ kk (.int (D (sd_rn i) 0) :: st) D a) := by
  have e : (am_get (sd_sh L) (flX3 131) (.ref (sd_rn i) :: st) D a kk) = ((sd_rn i) < a.1 ∧ (1 = 1 ∧ (0 < 8 ∧ kk (.int (D (sd_rn i) 0) :: st) D a))) := by
    show (_ ∧ am_ob (sd_sh L (sd_rn i)) _ _) = _
    rw [sd_sh_rn]
    rfl
  rw [e]
  exact propext ⟨fun h => ⟨h.1, h.2.2.2⟩, fun h => ⟨h.1, rfl, (by decide), h.2⟩⟩
theorem af_X3_131_p {L : Nat} {i : Nat} {st : List Value} {D : am_D} {a : am_A} {kk : List Value → am_D → am_A → Prop} {z : Int32} : (am_put (sd_sh L) (flX3 131) (.int z :: .ref (sd_rn i) :: st) D a kk) = ((sd_rn i) < a.1 ∧ kk st (am_up D (sd_rn i) 0 z) a) := by
  have e : (am_put (sd_sh L) (flX3 131) (.int z :: .ref (sd_rn i) :: st) D a kk) = ((sd_rn i) < a.1 ∧ (1 = 1 ∧ (0 < 8 ∧ kk st (am_up D (sd_rn i) 0 z) a))) := by
    show (_ ∧ am_ob (sd_sh L (sd_rn i)) _ _) = _
    rw [sd_sh_rn]
    rfl
  rw [e]
  exact propext ⟨fun h => ⟨h.1, h.2.2.2⟩, fun h => ⟨h.1, rfl, (by decide), h.2⟩⟩
theorem af_X3_141_g {L : Nat} {i : Nat} {st : List Value} {D : am_D} {a : am_A} {kk : List Value → am_D → am_A → Prop} : (am_get (sd_sh L) (flX3 141) (.ref (sd_rn i) :: st) D a kk) = ((sd_rn i) < a.1 ∧ kk (.int (D (sd_rn i) 2) :: st) D a) := by
  have e : (am_get (sd_sh L) (flX3 141) (.ref (sd_rn i) :: st) D a kk) = ((sd_rn i) < a.1 ∧ (1 = 1 ∧ (2 < 8 ∧ kk (.int (D (sd_rn i) 2) :: st) D a))) := by
    show (_ ∧ am_ob (sd_sh L (sd_rn i)) _ _) = _
    rw [sd_sh_rn]
    rfl
  rw [e]
  exact propext ⟨fun h => ⟨h.1, h.2.2.2⟩, fun h => ⟨h.1, rfl, (by decide), h.2⟩⟩
theorem af_X3_141_p {L : Nat} {i : Nat} {st : List Value} {D : am_D} {a : am_A} {kk : List Value → am_D → am_A → Prop} {z : Int32} : (am_put (sd_sh L) (flX3 141) (.int z :: .ref (sd_rn i) :: st) D a kk) = ((sd_rn i) < a.1 ∧ kk st (am_up D (sd_rn i) 2 z) a) := by
  have e : (am_put (sd_sh L) (flX3 141) (.int z :: .ref (sd_rn i) :: st) D a kk) = ((sd_rn i) < a.1 ∧ (1 = 1 ∧ (2 < 8 ∧ kk st (am_up D (sd_rn i) 2 z) a))) := by
    show (_ ∧ am_ob (sd_sh L (sd_rn i)) _ _) = _
    rw [sd_sh_rn]
    rfl
  rw [e]
  exact propext ⟨fun h => ⟨h.1, h.2.2.2⟩, fun h => ⟨h.1, rfl, (by decide), h.2⟩⟩
theorem af_X3_144_g {L : Nat} {i : Nat} {st : List Value} {D : am_D} {a : am_A} {kk : List Value → am_D → am_A → Prop} : (am_get (sd_sh L) (flX3 144) (.ref (sd_rn i) :: st) D a kk) = ((sd_rn i) < a.1 ∧ kk (.int (D (sd_rn i) 3) :: st) D a) := by
  have e : (am_get (sd_sh L) (flX3 144) (.ref (sd_rn i) :: st) D a kk) = ((sd_rn i) < a.1 ∧ (1 = 1 ∧ (3 < 8 ∧ kk (.int (D (sd_rn i) 3) :: st) D a))) := by
    show (_ ∧ am_ob (sd_sh L (sd_rn i)) _ _) = _
    rw [sd_sh_rn]
    rfl
  rw [e]
  exact propext ⟨fun h => ⟨h.1, h.2.2.2⟩, fun h => ⟨h.1, rfl, (by decide), h.2⟩⟩
theorem af_X3_144_p {L : Nat} {i : Nat} {st : List Value} {D : am_D} {a : am_A} {kk : List Value → am_D → am_A → Prop} {z : Int32} : (am_put (sd_sh L) (flX3 144) (.int z :: .ref (sd_rn i) :: st) D a kk) = ((sd_rn i) < a.1 ∧ kk st (am_up D (sd_rn i) 3 z) a) := by
  have e : (am_put (sd_sh L) (flX3 144) (.int z :: .ref (sd_rn i) :: st) D a kk) = ((sd_rn i) < a.1 ∧ (1 = 1 ∧ (3 < 8 ∧ kk st (am_up D (sd_rn i) 3 z) a))) := by
    show (_ ∧ am_ob (sd_sh L (sd_rn i)) _ _) = _
    rw [sd_sh_rn]
    rfl
  rw [e]
  exact propext ⟨fun h => ⟨h.1, h.2.2.2⟩, fun h => ⟨h.1, rfl, (by decide), h.2⟩⟩
theorem af_X3_158_g {L : Nat} {st : List Value} {D : am_D} {a : am_A} {kk : List Value → am_D → am_A → Prop} : (am_get (sd_sh L) (flX3 158) (.ref 1 :: st) D a kk) = (1 < a.1 ∧ kk (.ref 3 :: st) D a) := propext ⟨fun h => (fun h : 1 < a.1 ∧ (2 = 2 ∧ (3 < 10 ∧ kk (.ref 3 :: st) D a)) => ⟨h.1, h.2.2.2⟩) h, fun h => (show 1 < a.1 ∧ (2 = 2 ∧ (3 < 10 ∧ kk (.ref 3 :: st) D a)) from ⟨h.1, rfl, (by decide), h.2⟩)⟩
theorem af_X3_161_g {L : Nat} {i : Nat} {st : List Value} {D : am_D} {a : am_A} {kk : List Value → am_D → am_A → Prop} : (am_get (sd_sh L) (flX3 161) (.ref (sd_rn i) :: st) D a kk) = ((sd_rn i) < a.1 ∧ kk (.int (D (sd_rn i) 7) :: st) D a) := by
  have e : (am_get (sd_sh L) (flX3 161) (.ref (sd_rn i) :: st) D a kk) = ((sd_rn i) < a.1 ∧ (1 = 1 ∧ (7 < 8 ∧ kk (.int (D (sd_rn i) 7) :: st) D a))) := by
    show (_ ∧ am_ob (sd_sh L (sd_rn i)) _ _) = _
    rw [sd_sh_rn]
    rfl
  rw [e]
  exact propext ⟨fun h => ⟨h.1, h.2.2.2⟩, fun h => ⟨h.1, rfl, (by decide), h.2⟩⟩
theorem af_X3_161_p {L : Nat} {i : Nat} {st : List Value} {D : am_D} {a : am_A} {kk : List Value → am_D → am_A → Prop} {z : Int32} : (am_put (sd_sh L) (flX3 161) (.int z :: .ref (sd_rn i) :: st) D a kk) = ((sd_rn i) < a.1 ∧ (z = 0 ∨ z = 1) ∧ kk st (am_up D (sd_rn i) 7 z) a) := by
  have e : (am_put (sd_sh L) (flX3 161) (.int z :: .ref (sd_rn i) :: st) D a kk) = ((sd_rn i) < a.1 ∧ (1 = 1 ∧ (7 < 8 ∧ (z = 0 ∨ z = 1) ∧ kk st (am_up D (sd_rn i) 7 z) a))) := by
    show (_ ∧ am_ob (sd_sh L (sd_rn i)) _ _) = _
    rw [sd_sh_rn]
    rfl
  rw [e]
  exact propext ⟨fun h => ⟨h.1, h.2.2.2⟩, fun h => ⟨h.1, rfl, (by decide), h.2⟩⟩
theorem af_X3_168_g {L : Nat} {i : Nat} {st : List Value} {D : am_D} {a : am_A} {kk : List Value → am_D → am_A → Prop} : (am_get (sd_sh L) (flX3 168) (.ref (sd_rn i) :: st) D a kk) = ((sd_rn i) < a.1 ∧ kk (am_rf (D (sd_rn i) 1) :: st) D a) := by
  have e : (am_get (sd_sh L) (flX3 168) (.ref (sd_rn i) :: st) D a kk) = ((sd_rn i) < a.1 ∧ (1 = 1 ∧ (1 < 8 ∧ kk (am_rf (D (sd_rn i) 1) :: st) D a))) := by
    show (_ ∧ am_ob (sd_sh L (sd_rn i)) _ _) = _
    rw [sd_sh_rn]
    rfl
  rw [e]
  exact propext ⟨fun h => ⟨h.1, h.2.2.2⟩, fun h => ⟨h.1, rfl, (by decide), h.2⟩⟩
theorem af_X3_178_g {L : Nat} {st : List Value} {D : am_D} {a : am_A} {kk : List Value → am_D → am_A → Prop} : (am_get (sd_sh L) (flX3 178) (.ref 1 :: st) D a kk) = (1 < a.1 ∧ kk (.ref 5 :: st) D a) := propext ⟨fun h => (fun h : 1 < a.1 ∧ (2 = 2 ∧ (5 < 10 ∧ kk (.ref 5 :: st) D a)) => ⟨h.1, h.2.2.2⟩) h, fun h => (show 1 < a.1 ∧ (2 = 2 ∧ (5 < 10 ∧ kk (.ref 5 :: st) D a)) from ⟨h.1, rfl, (by decide), h.2⟩)⟩
theorem af_X3_185_g {L : Nat} {st : List Value} {D : am_D} {a : am_A} {kk : List Value → am_D → am_A → Prop} : (am_get (sd_sh L) (flX3 185) (.ref 1 :: st) D a kk) = (1 < a.1 ∧ kk (.ref 6 :: st) D a) := propext ⟨fun h => (fun h : 1 < a.1 ∧ (2 = 2 ∧ (6 < 10 ∧ kk (.ref 6 :: st) D a)) => ⟨h.1, h.2.2.2⟩) h, fun h => (show 1 < a.1 ∧ (2 = 2 ∧ (6 < 10 ∧ kk (.ref 6 :: st) D a)) from ⟨h.1, rfl, (by decide), h.2⟩)⟩
theorem af_X3_191_g {L : Nat} {st : List Value} {D : am_D} {a : am_A} {kk : List Value → am_D → am_A → Prop} : (am_get (sd_sh L) (flX3 191) (.ref 1 :: st) D a kk) = (1 < a.1 ∧ kk (.ref 2 :: st) D a) := propext ⟨fun h => (fun h : 1 < a.1 ∧ (2 = 2 ∧ (2 < 10 ∧ kk (.ref 2 :: st) D a)) => ⟨h.1, h.2.2.2⟩) h, fun h => (show 1 < a.1 ∧ (2 = 2 ∧ (2 < 10 ∧ kk (.ref 2 :: st) D a)) from ⟨h.1, rfl, (by decide), h.2⟩)⟩
theorem af_X3_223_g {L : Nat} {st : List Value} {D : am_D} {a : am_A} {kk : List Value → am_D → am_A → Prop} : (am_get (sd_sh L) (flX3 223) (.ref 0 :: st) D a kk) = (0 < a.1 ∧ kk (.int (D 0 6) :: st) D a) := propext ⟨fun h => (fun h : 0 < a.1 ∧ (3 = 3 ∧ (6 < 10 ∧ kk (.int (D 0 6) :: st) D a)) => ⟨h.1, h.2.2.2⟩) h, fun h => (show 0 < a.1 ∧ (3 = 3 ∧ (6 < 10 ∧ kk (.int (D 0 6) :: st) D a)) from ⟨h.1, rfl, (by decide), h.2⟩)⟩
theorem af_X3_223_p {L : Nat} {st : List Value} {D : am_D} {a : am_A} {kk : List Value → am_D → am_A → Prop} {z : Int32} : (am_put (sd_sh L) (flX3 223) (.int z :: .ref 0 :: st) D a kk) = (0 < a.1 ∧ kk st (am_up D 0 6 z) a) := propext ⟨fun h => (fun h : 0 < a.1 ∧ (3 = 3 ∧ (6 < 10 ∧ kk st (am_up D 0 6 z) a)) => ⟨h.1, h.2.2.2⟩) h, fun h => (show 0 < a.1 ∧ (3 = 3 ∧ (6 < 10 ∧ kk st (am_up D 0 6 z) a)) from ⟨h.1, rfl, (by decide), h.2⟩)⟩
theorem af_X3_236_g {L : Nat} {i : Nat} {st : List Value} {D : am_D} {a : am_A} {kk : List Value → am_D → am_A → Prop} : (am_get (sd_sh L) (flX3 236) (.ref (sd_rn i) :: st) D a kk) = ((sd_rn i) < a.1 ∧ kk (.int (D (sd_rn i) 4) :: st) D a) := by
  have e : (am_get (sd_sh L) (flX3 236) (.ref (sd_rn i) :: st) D a kk) = ((sd_rn i) < a.1 ∧ (1 = 1 ∧ (4 < 8 ∧ kk (.int (D (sd_rn i) 4) :: st) D a))) := by
    show (_ ∧ am_ob (sd_sh L (sd_rn i)) _ _) = _
    rw [sd_sh_rn]
    rfl
  rw [e]
  exact propext ⟨fun h => ⟨h.1, h.2.2.2⟩, fun h => ⟨h.1, rfl, (by decide), h.2⟩⟩
theorem af_X3_236_p {L : Nat} {i : Nat} {st : List Value} {D : am_D} {a : am_A} {kk : List Value → am_D → am_A → Prop} {z : Int32} : (am_put (sd_sh L) (flX3 236) (.int z :: .ref (sd_rn i) :: st) D a kk) = ((sd_rn i) < a.1 ∧ kk st (am_up D (sd_rn i) 4 z) a) := by
  have e : (am_put (sd_sh L) (flX3 236) (.int z :: .ref (sd_rn i) :: st) D a kk) = ((sd_rn i) < a.1 ∧ (1 = 1 ∧ (4 < 8 ∧ kk st (am_up D (sd_rn i) 4 z) a))) := by
    show (_ ∧ am_ob (sd_sh L (sd_rn i)) _ _) = _
    rw [sd_sh_rn]
    rfl
  rw [e]
  exact propext ⟨fun h => ⟨h.1, h.2.2.2⟩, fun h => ⟨h.1, rfl, (by decide), h.2⟩⟩
theorem af_X3_238_g {L : Nat} {i : Nat} {st : List Value} {D : am_D} {a : am_A} {kk : List Value → am_D → am_A → Prop} : (am_get (sd_sh L) (flX3 238) (.ref (sd_rn i) :: st) D a kk) = ((sd_rn i) < a.1 ∧ kk (.int (D (sd_rn i) 5) :: st) D a) := by
  have e : (am_get (sd_sh L) (flX3 238) (.ref (sd_rn i) :: st) D a kk) = ((sd_rn i) < a.1 ∧ (1 = 1 ∧ (5 < 8 ∧ kk (.int (D (sd_rn i) 5) :: st) D a))) := by
    show (_ ∧ am_ob (sd_sh L (sd_rn i)) _ _) = _
    rw [sd_sh_rn]
    rfl
  rw [e]
  exact propext ⟨fun h => ⟨h.1, h.2.2.2⟩, fun h => ⟨h.1, rfl, (by decide), h.2⟩⟩
theorem af_X3_238_p {L : Nat} {i : Nat} {st : List Value} {D : am_D} {a : am_A} {kk : List Value → am_D → am_A → Prop} {z : Int32} : (am_put (sd_sh L) (flX3 238) (.int z :: .ref (sd_rn i) :: st) D a kk) = ((sd_rn i) < a.1 ∧ kk st (am_up D (sd_rn i) 5 z) a) := by
  have e : (am_put (sd_sh L) (flX3 238) (.int z :: .ref (sd_rn i) :: st) D a kk) = ((sd_rn i) < a.1 ∧ (1 = 1 ∧ (5 < 8 ∧ kk st (am_up D (sd_rn i) 5 z) a))) := by
    show (_ ∧ am_ob (sd_sh L (sd_rn i)) _ _) = _
    rw [sd_sh_rn]
    rfl
  rw [e]
  exact propext ⟨fun h => ⟨h.1, h.2.2.2⟩, fun h => ⟨h.1, rfl, (by decide), h.2⟩⟩
theorem af_X3_287_g {L : Nat} {st : List Value} {D : am_D} {a : am_A} {kk : List Value → am_D → am_A → Prop} : (am_get (sd_sh L) (flX3 287) (.ref 1 :: st) D a kk) = (1 < a.1 ∧ kk (.int (D 1 1) :: st) D a) := propext ⟨fun h => (fun h : 1 < a.1 ∧ (2 = 2 ∧ (1 < 10 ∧ kk (.int (D 1 1) :: st) D a)) => ⟨h.1, h.2.2.2⟩) h, fun h => (show 1 < a.1 ∧ (2 = 2 ∧ (1 < 10 ∧ kk (.int (D 1 1) :: st) D a)) from ⟨h.1, rfl, (by decide), h.2⟩)⟩
theorem af_X3_287_p {L : Nat} {st : List Value} {D : am_D} {a : am_A} {kk : List Value → am_D → am_A → Prop} {z : Int32} : (am_put (sd_sh L) (flX3 287) (.int z :: .ref 1 :: st) D a kk) = (1 < a.1 ∧ kk st (am_up D 1 1 z) a) := propext ⟨fun h => (fun h : 1 < a.1 ∧ (2 = 2 ∧ (1 < 10 ∧ kk st (am_up D 1 1 z) a)) => ⟨h.1, h.2.2.2⟩) h, fun h => (show 1 < a.1 ∧ (2 = 2 ∧ (1 < 10 ∧ kk st (am_up D 1 1 z) a)) from ⟨h.1, rfl, (by decide), h.2⟩)⟩
theorem af_X4_7_g {st : List Value} {D : am_D} {a : am_A} {kk : List Value → am_D → am_A → Prop} : (am_get sm_sh (flX4 7) (.ref 0 :: st) D a kk) = (0 < a.1 ∧ kk (.int (D 0 0) :: st) D a) := propext ⟨fun h => (fun h : 0 < a.1 ∧ (4 = 4 ∧ (0 < 23 ∧ kk (.int (D 0 0) :: st) D a)) => ⟨h.1, h.2.2.2⟩) h, fun h => (show 0 < a.1 ∧ (4 = 4 ∧ (0 < 23 ∧ kk (.int (D 0 0) :: st) D a)) from ⟨h.1, rfl, (by decide), h.2⟩)⟩
theorem af_X4_7_p {st : List Value} {D : am_D} {a : am_A} {kk : List Value → am_D → am_A → Prop} {z : Int32} : (am_put sm_sh (flX4 7) (.int z :: .ref 0 :: st) D a kk) = (0 < a.1 ∧ kk st (am_up D 0 0 z) a) := propext ⟨fun h => (fun h : 0 < a.1 ∧ (4 = 4 ∧ (0 < 23 ∧ kk st (am_up D 0 0 z) a)) => ⟨h.1, h.2.2.2⟩) h, fun h => (show 0 < a.1 ∧ (4 = 4 ∧ (0 < 23 ∧ kk st (am_up D 0 0 z) a)) from ⟨h.1, rfl, (by decide), h.2⟩)⟩
theorem af_X4_13_g {st : List Value} {D : am_D} {a : am_A} {kk : List Value → am_D → am_A → Prop} : (am_get sm_sh (flX4 13) (.ref 0 :: st) D a kk) = (0 < a.1 ∧ kk (.int (D 0 1) :: st) D a) := propext ⟨fun h => (fun h : 0 < a.1 ∧ (4 = 4 ∧ (1 < 23 ∧ kk (.int (D 0 1) :: st) D a)) => ⟨h.1, h.2.2.2⟩) h, fun h => (show 0 < a.1 ∧ (4 = 4 ∧ (1 < 23 ∧ kk (.int (D 0 1) :: st) D a)) from ⟨h.1, rfl, (by decide), h.2⟩)⟩
theorem af_X4_13_p {st : List Value} {D : am_D} {a : am_A} {kk : List Value → am_D → am_A → Prop} {z : Int32} : (am_put sm_sh (flX4 13) (.int z :: .ref 0 :: st) D a kk) = (0 < a.1 ∧ kk st (am_up D 0 1 z) a) := propext ⟨fun h => (fun h : 0 < a.1 ∧ (4 = 4 ∧ (1 < 23 ∧ kk st (am_up D 0 1 z) a)) => ⟨h.1, h.2.2.2⟩) h, fun h => (show 0 < a.1 ∧ (4 = 4 ∧ (1 < 23 ∧ kk st (am_up D 0 1 z) a)) from ⟨h.1, rfl, (by decide), h.2⟩)⟩
theorem af_X4_16_g {st : List Value} {D : am_D} {a : am_A} {kk : List Value → am_D → am_A → Prop} : (am_get sm_sh (flX4 16) (.ref 0 :: st) D a kk) = (0 < a.1 ∧ kk (.int (D 0 2) :: st) D a) := propext ⟨fun h => (fun h : 0 < a.1 ∧ (4 = 4 ∧ (2 < 23 ∧ kk (.int (D 0 2) :: st) D a)) => ⟨h.1, h.2.2.2⟩) h, fun h => (show 0 < a.1 ∧ (4 = 4 ∧ (2 < 23 ∧ kk (.int (D 0 2) :: st) D a)) from ⟨h.1, rfl, (by decide), h.2⟩)⟩
theorem af_X4_16_p {st : List Value} {D : am_D} {a : am_A} {kk : List Value → am_D → am_A → Prop} {z : Int32} : (am_put sm_sh (flX4 16) (.int z :: .ref 0 :: st) D a kk) = (0 < a.1 ∧ kk st (am_up D 0 2 z) a) := propext ⟨fun h => (fun h : 0 < a.1 ∧ (4 = 4 ∧ (2 < 23 ∧ kk st (am_up D 0 2 z) a)) => ⟨h.1, h.2.2.2⟩) h, fun h => (show 0 < a.1 ∧ (4 = 4 ∧ (2 < 23 ∧ kk st (am_up D 0 2 z) a)) from ⟨h.1, rfl, (by decide), h.2⟩)⟩
theorem af_X4_19_g {st : List Value} {D : am_D} {a : am_A} {kk : List Value → am_D → am_A → Prop} : (am_get sm_sh (flX4 19) (.ref 0 :: st) D a kk) = (0 < a.1 ∧ kk (.ref 1 :: st) D a) := propext ⟨fun h => (fun h : 0 < a.1 ∧ (4 = 4 ∧ (3 < 23 ∧ kk (.ref 1 :: st) D a)) => ⟨h.1, h.2.2.2⟩) h, fun h => (show 0 < a.1 ∧ (4 = 4 ∧ (3 < 23 ∧ kk (.ref 1 :: st) D a)) from ⟨h.1, rfl, (by decide), h.2⟩)⟩
theorem af_X4_23_g {st : List Value} {D : am_D} {a : am_A} {kk : List Value → am_D → am_A → Prop} : (am_get sm_sh (flX4 23) (.ref 0 :: st) D a kk) = (0 < a.1 ∧ kk (.ref 2 :: st) D a) := propext ⟨fun h => (fun h : 0 < a.1 ∧ (4 = 4 ∧ (4 < 23 ∧ kk (.ref 2 :: st) D a)) => ⟨h.1, h.2.2.2⟩) h, fun h => (show 0 < a.1 ∧ (4 = 4 ∧ (4 < 23 ∧ kk (.ref 2 :: st) D a)) from ⟨h.1, rfl, (by decide), h.2⟩)⟩
theorem af_X4_26_g {st : List Value} {D : am_D} {a : am_A} {kk : List Value → am_D → am_A → Prop} : (am_get sm_sh (flX4 26) (.ref 0 :: st) D a kk) = (0 < a.1 ∧ kk (.ref 3 :: st) D a) := propext ⟨fun h => (fun h : 0 < a.1 ∧ (4 = 4 ∧ (5 < 23 ∧ kk (.ref 3 :: st) D a)) => ⟨h.1, h.2.2.2⟩) h, fun h => (show 0 < a.1 ∧ (4 = 4 ∧ (5 < 23 ∧ kk (.ref 3 :: st) D a)) from ⟨h.1, rfl, (by decide), h.2⟩)⟩
theorem af_X4_30_g {st : List Value} {D : am_D} {a : am_A} {kk : List Value → am_D → am_A → Prop} : (am_get sm_sh (flX4 30) (.ref 0 :: st) D a kk) = (0 < a.1 ∧ kk (.ref 4 :: st) D a) := propext ⟨fun h => (fun h : 0 < a.1 ∧ (4 = 4 ∧ (6 < 23 ∧ kk (.ref 4 :: st) D a)) => ⟨h.1, h.2.2.2⟩) h, fun h => (show 0 < a.1 ∧ (4 = 4 ∧ (6 < 23 ∧ kk (.ref 4 :: st) D a)) from ⟨h.1, rfl, (by decide), h.2⟩)⟩
theorem af_X4_33_g {st : List Value} {D : am_D} {a : am_A} {kk : List Value → am_D → am_A → Prop} : (am_get sm_sh (flX4 33) (.ref 0 :: st) D a kk) = (0 < a.1 ∧ kk (.ref 5 :: st) D a) := propext ⟨fun h => (fun h : 0 < a.1 ∧ (4 = 4 ∧ (7 < 23 ∧ kk (.ref 5 :: st) D a)) => ⟨h.1, h.2.2.2⟩) h, fun h => (show 0 < a.1 ∧ (4 = 4 ∧ (7 < 23 ∧ kk (.ref 5 :: st) D a)) from ⟨h.1, rfl, (by decide), h.2⟩)⟩
theorem af_X4_36_g {st : List Value} {D : am_D} {a : am_A} {kk : List Value → am_D → am_A → Prop} : (am_get sm_sh (flX4 36) (.ref 0 :: st) D a kk) = (0 < a.1 ∧ kk (.int (D 0 8) :: st) D a) := propext ⟨fun h => (fun h : 0 < a.1 ∧ (4 = 4 ∧ (8 < 23 ∧ kk (.int (D 0 8) :: st) D a)) => ⟨h.1, h.2.2.2⟩) h, fun h => (show 0 < a.1 ∧ (4 = 4 ∧ (8 < 23 ∧ kk (.int (D 0 8) :: st) D a)) from ⟨h.1, rfl, (by decide), h.2⟩)⟩
theorem af_X4_36_p {st : List Value} {D : am_D} {a : am_A} {kk : List Value → am_D → am_A → Prop} {z : Int32} : (am_put sm_sh (flX4 36) (.int z :: .ref 0 :: st) D a kk) = (0 < a.1 ∧ kk st (am_up D 0 8 z) a) := propext ⟨fun h => (fun h : 0 < a.1 ∧ (4 = 4 ∧ (8 < 23 ∧ kk st (am_up D 0 8 z) a)) => ⟨h.1, h.2.2.2⟩) h, fun h => (show 0 < a.1 ∧ (4 = 4 ∧ (8 < 23 ∧ kk st (am_up D 0 8 z) a)) from ⟨h.1, rfl, (by decide), h.2⟩)⟩
theorem af_X4_39_g {st : List Value} {D : am_D} {a : am_A} {kk : List Value → am_D → am_A → Prop} : (am_get sm_sh (flX4 39) (.ref 0 :: st) D a kk) = (0 < a.1 ∧ kk (.ref 6 :: st) D a) := propext ⟨fun h => (fun h : 0 < a.1 ∧ (4 = 4 ∧ (9 < 23 ∧ kk (.ref 6 :: st) D a)) => ⟨h.1, h.2.2.2⟩) h, fun h => (show 0 < a.1 ∧ (4 = 4 ∧ (9 < 23 ∧ kk (.ref 6 :: st) D a)) from ⟨h.1, rfl, (by decide), h.2⟩)⟩
theorem af_X4_42_g {st : List Value} {D : am_D} {a : am_A} {kk : List Value → am_D → am_A → Prop} : (am_get sm_sh (flX4 42) (.ref 0 :: st) D a kk) = (0 < a.1 ∧ kk (.ref 7 :: st) D a) := propext ⟨fun h => (fun h : 0 < a.1 ∧ (4 = 4 ∧ (10 < 23 ∧ kk (.ref 7 :: st) D a)) => ⟨h.1, h.2.2.2⟩) h, fun h => (show 0 < a.1 ∧ (4 = 4 ∧ (10 < 23 ∧ kk (.ref 7 :: st) D a)) from ⟨h.1, rfl, (by decide), h.2⟩)⟩
theorem af_X4_45_g {st : List Value} {D : am_D} {a : am_A} {kk : List Value → am_D → am_A → Prop} : (am_get sm_sh (flX4 45) (.ref 0 :: st) D a kk) = (0 < a.1 ∧ kk (.ref 8 :: st) D a) := propext ⟨fun h => (fun h : 0 < a.1 ∧ (4 = 4 ∧ (11 < 23 ∧ kk (.ref 8 :: st) D a)) => ⟨h.1, h.2.2.2⟩) h, fun h => (show 0 < a.1 ∧ (4 = 4 ∧ (11 < 23 ∧ kk (.ref 8 :: st) D a)) from ⟨h.1, rfl, (by decide), h.2⟩)⟩
theorem af_X4_48_g {st : List Value} {D : am_D} {a : am_A} {kk : List Value → am_D → am_A → Prop} : (am_get sm_sh (flX4 48) (.ref 0 :: st) D a kk) = (0 < a.1 ∧ kk (.ref 9 :: st) D a) := propext ⟨fun h => (fun h : 0 < a.1 ∧ (4 = 4 ∧ (12 < 23 ∧ kk (.ref 9 :: st) D a)) => ⟨h.1, h.2.2.2⟩) h, fun h => (show 0 < a.1 ∧ (4 = 4 ∧ (12 < 23 ∧ kk (.ref 9 :: st) D a)) from ⟨h.1, rfl, (by decide), h.2⟩)⟩
theorem af_X4_51_g {st : List Value} {D : am_D} {a : am_A} {kk : List Value → am_D → am_A → Prop} : (am_get sm_sh (flX4 51) (.ref 0 :: st) D a kk) = (0 < a.1 ∧ kk (.ref 10 :: st) D a) := propext ⟨fun h => (fun h : 0 < a.1 ∧ (4 = 4 ∧ (13 < 23 ∧ kk (.ref 10 :: st) D a)) => ⟨h.1, h.2.2.2⟩) h, fun h => (show 0 < a.1 ∧ (4 = 4 ∧ (13 < 23 ∧ kk (.ref 10 :: st) D a)) from ⟨h.1, rfl, (by decide), h.2⟩)⟩
theorem af_X4_54_g {st : List Value} {D : am_D} {a : am_A} {kk : List Value → am_D → am_A → Prop} : (am_get sm_sh (flX4 54) (.ref 0 :: st) D a kk) = (0 < a.1 ∧ kk (.ref 11 :: st) D a) := propext ⟨fun h => (fun h : 0 < a.1 ∧ (4 = 4 ∧ (14 < 23 ∧ kk (.ref 11 :: st) D a)) => ⟨h.1, h.2.2.2⟩) h, fun h => (show 0 < a.1 ∧ (4 = 4 ∧ (14 < 23 ∧ kk (.ref 11 :: st) D a)) from ⟨h.1, rfl, (by decide), h.2⟩)⟩
theorem af_X4_57_g {st : List Value} {D : am_D} {a : am_A} {kk : List Value → am_D → am_A → Prop} : (am_get sm_sh (flX4 57) (.ref 0 :: st) D a kk) = (0 < a.1 ∧ kk (.ref 12 :: st) D a) := propext ⟨fun h => (fun h : 0 < a.1 ∧ (4 = 4 ∧ (15 < 23 ∧ kk (.ref 12 :: st) D a)) => ⟨h.1, h.2.2.2⟩) h, fun h => (show 0 < a.1 ∧ (4 = 4 ∧ (15 < 23 ∧ kk (.ref 12 :: st) D a)) from ⟨h.1, rfl, (by decide), h.2⟩)⟩
theorem af_X4_60_g {st : List Value} {D : am_D} {a : am_A} {kk : List Value → am_D → am_A → Prop} : (am_get sm_sh (flX4 60) (.ref 0 :: st) D a kk) = (0 < a.1 ∧ kk (.ref 13 :: st) D a) := propext ⟨fun h => (fun h : 0 < a.1 ∧ (4 = 4 ∧ (16 < 23 ∧ kk (.ref 13 :: st) D a)) => ⟨h.1, h.2.2.2⟩) h, fun h => (show 0 < a.1 ∧ (4 = 4 ∧ (16 < 23 ∧ kk (.ref 13 :: st) D a)) from ⟨h.1, rfl, (by decide), h.2⟩)⟩
theorem af_X4_63_g {st : List Value} {D : am_D} {a : am_A} {kk : List Value → am_D → am_A → Prop} : (am_get sm_sh (flX4 63) (.ref 0 :: st) D a kk) = (0 < a.1 ∧ kk (.int (D 0 17) :: st) D a) := propext ⟨fun h => (fun h : 0 < a.1 ∧ (4 = 4 ∧ (17 < 23 ∧ kk (.int (D 0 17) :: st) D a)) => ⟨h.1, h.2.2.2⟩) h, fun h => (show 0 < a.1 ∧ (4 = 4 ∧ (17 < 23 ∧ kk (.int (D 0 17) :: st) D a)) from ⟨h.1, rfl, (by decide), h.2⟩)⟩
theorem af_X4_63_p {st : List Value} {D : am_D} {a : am_A} {kk : List Value → am_D → am_A → Prop} {z : Int32} : (am_put sm_sh (flX4 63) (.int z :: .ref 0 :: st) D a kk) = (0 < a.1 ∧ kk st (am_up D 0 17 z) a) := propext ⟨fun h => (fun h : 0 < a.1 ∧ (4 = 4 ∧ (17 < 23 ∧ kk st (am_up D 0 17 z) a)) => ⟨h.1, h.2.2.2⟩) h, fun h => (show 0 < a.1 ∧ (4 = 4 ∧ (17 < 23 ∧ kk st (am_up D 0 17 z) a)) from ⟨h.1, rfl, (by decide), h.2⟩)⟩
theorem af_X4_66_g {st : List Value} {D : am_D} {a : am_A} {kk : List Value → am_D → am_A → Prop} : (am_get sm_sh (flX4 66) (.ref 0 :: st) D a kk) = (0 < a.1 ∧ kk (.ref 14 :: st) D a) := propext ⟨fun h => (fun h : 0 < a.1 ∧ (4 = 4 ∧ (18 < 23 ∧ kk (.ref 14 :: st) D a)) => ⟨h.1, h.2.2.2⟩) h, fun h => (show 0 < a.1 ∧ (4 = 4 ∧ (18 < 23 ∧ kk (.ref 14 :: st) D a)) from ⟨h.1, rfl, (by decide), h.2⟩)⟩
theorem af_X4_69_g {st : List Value} {D : am_D} {a : am_A} {kk : List Value → am_D → am_A → Prop} : (am_get sm_sh (flX4 69) (.ref 0 :: st) D a kk) = (0 < a.1 ∧ kk (.ref 15 :: st) D a) := propext ⟨fun h => (fun h : 0 < a.1 ∧ (4 = 4 ∧ (19 < 23 ∧ kk (.ref 15 :: st) D a)) => ⟨h.1, h.2.2.2⟩) h, fun h => (show 0 < a.1 ∧ (4 = 4 ∧ (19 < 23 ∧ kk (.ref 15 :: st) D a)) from ⟨h.1, rfl, (by decide), h.2⟩)⟩
theorem af_X4_72_g {st : List Value} {D : am_D} {a : am_A} {kk : List Value → am_D → am_A → Prop} : (am_get sm_sh (flX4 72) (.ref 0 :: st) D a kk) = (0 < a.1 ∧ kk (.ref 16 :: st) D a) := propext ⟨fun h => (fun h : 0 < a.1 ∧ (4 = 4 ∧ (20 < 23 ∧ kk (.ref 16 :: st) D a)) => ⟨h.1, h.2.2.2⟩) h, fun h => (show 0 < a.1 ∧ (4 = 4 ∧ (20 < 23 ∧ kk (.ref 16 :: st) D a)) from ⟨h.1, rfl, (by decide), h.2⟩)⟩
theorem af_X4_75_g {st : List Value} {D : am_D} {a : am_A} {kk : List Value → am_D → am_A → Prop} : (am_get sm_sh (flX4 75) (.ref 0 :: st) D a kk) = (0 < a.1 ∧ kk (.int (D 0 21) :: st) D a) := propext ⟨fun h => (fun h : 0 < a.1 ∧ (4 = 4 ∧ (21 < 23 ∧ kk (.int (D 0 21) :: st) D a)) => ⟨h.1, h.2.2.2⟩) h, fun h => (show 0 < a.1 ∧ (4 = 4 ∧ (21 < 23 ∧ kk (.int (D 0 21) :: st) D a)) from ⟨h.1, rfl, (by decide), h.2⟩)⟩
theorem af_X4_75_p {st : List Value} {D : am_D} {a : am_A} {kk : List Value → am_D → am_A → Prop} {z : Int32} : (am_put sm_sh (flX4 75) (.int z :: .ref 0 :: st) D a kk) = (0 < a.1 ∧ kk st (am_up D 0 21 z) a) := propext ⟨fun h => (fun h : 0 < a.1 ∧ (4 = 4 ∧ (21 < 23 ∧ kk st (am_up D 0 21 z) a)) => ⟨h.1, h.2.2.2⟩) h, fun h => (show 0 < a.1 ∧ (4 = 4 ∧ (21 < 23 ∧ kk st (am_up D 0 21 z) a)) from ⟨h.1, rfl, (by decide), h.2⟩)⟩
theorem af_X4_78_g {st : List Value} {D : am_D} {a : am_A} {kk : List Value → am_D → am_A → Prop} : (am_get sm_sh (flX4 78) (.ref 0 :: st) D a kk) = (0 < a.1 ∧ kk (.ref 17 :: st) D a) := propext ⟨fun h => (fun h : 0 < a.1 ∧ (4 = 4 ∧ (22 < 23 ∧ kk (.ref 17 :: st) D a)) => ⟨h.1, h.2.2.2⟩) h, fun h => (show 0 < a.1 ∧ (4 = 4 ∧ (22 < 23 ∧ kk (.ref 17 :: st) D a)) from ⟨h.1, rfl, (by decide), h.2⟩)⟩
theorem aa_d_2_l {L : Nat} {st : List Value} {D : am_D} {a : am_A} {kk : List Value → am_D → am_A → Prop} {j : Int32} : (am_ald (sd_sh L) 0 (.int j :: .ref 2 :: st) D a kk) = (2 < a.1 ∧ (vp_in j (80) ∧ kk (.int (D 2 j.toNatClampNeg) :: st) D a)) := propext ⟨fun h => (fun h : 2 < a.1 ∧ (0 = 0 ∧ (vp_in j (80) ∧ kk (.int (D 2 j.toNatClampNeg) :: st) D a)) => ⟨h.1, h.2.2⟩) h, fun h => (show 2 < a.1 ∧ (0 = 0 ∧ (vp_in j (80) ∧ kk (.int (D 2 j.toNatClampNeg) :: st) D a)) from ⟨h.1, rfl, h.2⟩)⟩
theorem aa_d_2_s {L : Nat} {st : List Value} {D : am_D} {a : am_A} {kk : List Value → am_D → am_A → Prop} {j : Int32} {x : Int32} : (am_ast (sd_sh L) 0 (.int x :: .int j :: .ref 2 :: st) D a kk) = (2 < a.1 ∧ (vp_in j (80) ∧ kk st (am_up D 2 j.toNatClampNeg (x)) a)) := propext ⟨fun h => (fun h : 2 < a.1 ∧ (0 = 0 ∧ (vp_in j (80) ∧ kk st (am_up D 2 j.toNatClampNeg (x)) a)) => ⟨h.1, h.2.2⟩) h, fun h => (show 2 < a.1 ∧ (0 = 0 ∧ (vp_in j (80) ∧ kk st (am_up D 2 j.toNatClampNeg (x)) a)) from ⟨h.1, rfl, h.2⟩)⟩
theorem aa_d_2_n {L : Nat} {st : List Value} {D : am_D} {a : am_A} {kk : List Value → am_D → am_A → Prop} : (am_alen (sd_sh L) (.ref 2 :: st) D a kk) = (2 < a.1 ∧ kk (.int (Int32.ofNat (80)) :: st) D a) := propext ⟨fun h => (fun h : 2 < a.1 ∧ (0 = 0 ∧ kk (.int (Int32.ofNat (80)) :: st) D a) => ⟨h.1, h.2.2⟩) h, fun h => (show 2 < a.1 ∧ (0 = 0 ∧ kk (.int (Int32.ofNat (80)) :: st) D a) from ⟨h.1, rfl, h.2⟩)⟩
theorem aa_d_3_l {L : Nat} {st : List Value} {D : am_D} {a : am_A} {kk : List Value → am_D → am_A → Prop} {j : Int32} : (am_ald (sd_sh L) 0 (.int j :: .ref 3 :: st) D a kk) = (3 < a.1 ∧ (vp_in j (80) ∧ kk (.int (D 3 j.toNatClampNeg) :: st) D a)) := propext ⟨fun h => (fun h : 3 < a.1 ∧ (0 = 0 ∧ (vp_in j (80) ∧ kk (.int (D 3 j.toNatClampNeg) :: st) D a)) => ⟨h.1, h.2.2⟩) h, fun h => (show 3 < a.1 ∧ (0 = 0 ∧ (vp_in j (80) ∧ kk (.int (D 3 j.toNatClampNeg) :: st) D a)) from ⟨h.1, rfl, h.2⟩)⟩
theorem aa_d_3_s {L : Nat} {st : List Value} {D : am_D} {a : am_A} {kk : List Value → am_D → am_A → Prop} {j : Int32} {x : Int32} : (am_ast (sd_sh L) 0 (.int x :: .int j :: .ref 3 :: st) D a kk) = (3 < a.1 ∧ (vp_in j (80) ∧ kk st (am_up D 3 j.toNatClampNeg (x)) a)) := propext ⟨fun h => (fun h : 3 < a.1 ∧ (0 = 0 ∧ (vp_in j (80) ∧ kk st (am_up D 3 j.toNatClampNeg (x)) a)) => ⟨h.1, h.2.2⟩) h, fun h => (show 3 < a.1 ∧ (0 = 0 ∧ (vp_in j (80) ∧ kk st (am_up D 3 j.toNatClampNeg (x)) a)) from ⟨h.1, rfl, h.2⟩)⟩
theorem aa_d_3_n {L : Nat} {st : List Value} {D : am_D} {a : am_A} {kk : List Value → am_D → am_A → Prop} : (am_alen (sd_sh L) (.ref 3 :: st) D a kk) = (3 < a.1 ∧ kk (.int (Int32.ofNat (80)) :: st) D a) := propext ⟨fun h => (fun h : 3 < a.1 ∧ (0 = 0 ∧ kk (.int (Int32.ofNat (80)) :: st) D a) => ⟨h.1, h.2.2⟩) h, fun h => (show 3 < a.1 ∧ (0 = 0 ∧ kk (.int (Int32.ofNat (80)) :: st) D a) from ⟨h.1, rfl, h.2⟩)⟩
theorem aa_d_4_l {L : Nat} {st : List Value} {D : am_D} {a : am_A} {kk : List Value → am_D → am_A → Prop} {j : Int32} : (am_ald (sd_sh L) 0 (.int j :: .ref 4 :: st) D a kk) = (4 < a.1 ∧ (vp_in j (80) ∧ kk (.int (D 4 j.toNatClampNeg) :: st) D a)) := propext ⟨fun h => (fun h : 4 < a.1 ∧ (0 = 0 ∧ (vp_in j (80) ∧ kk (.int (D 4 j.toNatClampNeg) :: st) D a)) => ⟨h.1, h.2.2⟩) h, fun h => (show 4 < a.1 ∧ (0 = 0 ∧ (vp_in j (80) ∧ kk (.int (D 4 j.toNatClampNeg) :: st) D a)) from ⟨h.1, rfl, h.2⟩)⟩
theorem aa_d_4_s {L : Nat} {st : List Value} {D : am_D} {a : am_A} {kk : List Value → am_D → am_A → Prop} {j : Int32} {x : Int32} : (am_ast (sd_sh L) 0 (.int x :: .int j :: .ref 4 :: st) D a kk) = (4 < a.1 ∧ (vp_in j (80) ∧ kk st (am_up D 4 j.toNatClampNeg (x)) a)) := propext ⟨fun h => (fun h : 4 < a.1 ∧ (0 = 0 ∧ (vp_in j (80) ∧ kk st (am_up D 4 j.toNatClampNeg (x)) a)) => ⟨h.1, h.2.2⟩) h, fun h => (show 4 < a.1 ∧ (0 = 0 ∧ (vp_in j (80) ∧ kk st (am_up D 4 j.toNatClampNeg (x)) a)) from ⟨h.1, rfl, h.2⟩)⟩
theorem aa_d_4_n {L : Nat} {st : List Value} {D : am_D} {a : am_A} {kk : List Value → am_D → am_A → Prop} : (am_alen (sd_sh L) (.ref 4 :: st) D a kk) = (4 < a.1 ∧ kk (.int (Int32.ofNat (80)) :: st) D a) := propext ⟨fun h => (fun h : 4 < a.1 ∧ (0 = 0 ∧ kk (.int (Int32.ofNat (80)) :: st) D a) => ⟨h.1, h.2.2⟩) h, fun h => (show 4 < a.1 ∧ (0 = 0 ∧ kk (.int (Int32.ofNat (80)) :: st) D a) from ⟨h.1, rfl, h.2⟩)⟩
theorem aa_d_5_l {L : Nat} {st : List Value} {D : am_D} {a : am_A} {kk : List Value → am_D → am_A → Prop} {j : Int32} : (am_ald (sd_sh L) 0 (.int j :: .ref 5 :: st) D a kk) = (5 < a.1 ∧ (vp_in j (80) ∧ kk (.int (D 5 j.toNatClampNeg) :: st) D a)) := propext ⟨fun h => (fun h : 5 < a.1 ∧ (0 = 0 ∧ (vp_in j (80) ∧ kk (.int (D 5 j.toNatClampNeg) :: st) D a)) => ⟨h.1, h.2.2⟩) h, fun h => (show 5 < a.1 ∧ (0 = 0 ∧ (vp_in j (80) ∧ kk (.int (D 5 j.toNatClampNeg) :: st) D a)) from ⟨h.1, rfl, h.2⟩)⟩
theorem aa_d_5_s {L : Nat} {st : List Value} {D : am_D} {a : am_A} {kk : List Value → am_D → am_A → Prop} {j : Int32} {x : Int32} : (am_ast (sd_sh L) 0 (.int x :: .int j :: .ref 5 :: st) D a kk) = (5 < a.1 ∧ (vp_in j (80) ∧ kk st (am_up D 5 j.toNatClampNeg (x)) a)) := propext ⟨fun h => (fun h : 5 < a.1 ∧ (0 = 0 ∧ (vp_in j (80) ∧ kk st (am_up D 5 j.toNatClampNeg (x)) a)) => ⟨h.1, h.2.2⟩) h, fun h => (show 5 < a.1 ∧ (0 = 0 ∧ (vp_in j (80) ∧ kk st (am_up D 5 j.toNatClampNeg (x)) a)) from ⟨h.1, rfl, h.2⟩)⟩
theorem aa_d_5_n {L : Nat} {st : List Value} {D : am_D} {a : am_A} {kk : List Value → am_D → am_A → Prop} : (am_alen (sd_sh L) (.ref 5 :: st) D a kk) = (5 < a.1 ∧ kk (.int (Int32.ofNat (80)) :: st) D a) := propext ⟨fun h => (fun h : 5 < a.1 ∧ (0 = 0 ∧ kk (.int (Int32.ofNat (80)) :: st) D a) => ⟨h.1, h.2.2⟩) h, fun h => (show 5 < a.1 ∧ (0 = 0 ∧ kk (.int (Int32.ofNat (80)) :: st) D a) from ⟨h.1, rfl, h.2⟩)⟩
theorem aa_d_6_l {L : Nat} {st : List Value} {D : am_D} {a : am_A} {kk : List Value → am_D → am_A → Prop} {j : Int32} : (am_ald (sd_sh L) 0 (.int j :: .ref 6 :: st) D a kk) = (6 < a.1 ∧ (vp_in j (80) ∧ kk (.int (D 6 j.toNatClampNeg) :: st) D a)) := propext ⟨fun h => (fun h : 6 < a.1 ∧ (0 = 0 ∧ (vp_in j (80) ∧ kk (.int (D 6 j.toNatClampNeg) :: st) D a)) => ⟨h.1, h.2.2⟩) h, fun h => (show 6 < a.1 ∧ (0 = 0 ∧ (vp_in j (80) ∧ kk (.int (D 6 j.toNatClampNeg) :: st) D a)) from ⟨h.1, rfl, h.2⟩)⟩
theorem aa_d_6_s {L : Nat} {st : List Value} {D : am_D} {a : am_A} {kk : List Value → am_D → am_A → Prop} {j : Int32} {x : Int32} : (am_ast (sd_sh L) 0 (.int x :: .int j :: .ref 6 :: st) D a kk) = (6 < a.1 ∧ (vp_in j (80) ∧ kk st (am_up D 6 j.toNatClampNeg (x)) a)) := propext ⟨fun h => (fun h : 6 < a.1 ∧ (0 = 0 ∧ (vp_in j (80) ∧ kk st (am_up D 6 j.toNatClampNeg (x)) a)) => ⟨h.1, h.2.2⟩) h, fun h => (show 6 < a.1 ∧ (0 = 0 ∧ (vp_in j (80) ∧ kk st (am_up D 6 j.toNatClampNeg (x)) a)) from ⟨h.1, rfl, h.2⟩)⟩
theorem aa_d_6_n {L : Nat} {st : List Value} {D : am_D} {a : am_A} {kk : List Value → am_D → am_A → Prop} : (am_alen (sd_sh L) (.ref 6 :: st) D a kk) = (6 < a.1 ∧ kk (.int (Int32.ofNat (80)) :: st) D a) := propext ⟨fun h => (fun h : 6 < a.1 ∧ (0 = 0 ∧ kk (.int (Int32.ofNat (80)) :: st) D a) => ⟨h.1, h.2.2⟩) h, fun h => (show 6 < a.1 ∧ (0 = 0 ∧ kk (.int (Int32.ofNat (80)) :: st) D a) from ⟨h.1, rfl, h.2⟩)⟩
theorem aa_d_7_l {L : Nat} {st : List Value} {D : am_D} {a : am_A} {kk : List Value → am_D → am_A → Prop} {j : Int32} : (am_ald (sd_sh L) 1 (.int j :: .ref 7 :: st) D a kk) = (7 < a.1 ∧ (vp_in j (8) ∧ kk (.int (D 7 j.toNatClampNeg) :: st) D a)) := propext ⟨fun h => (fun h : 7 < a.1 ∧ (1 = 1 ∧ (vp_in j (8) ∧ kk (.int (D 7 j.toNatClampNeg) :: st) D a)) => ⟨h.1, h.2.2⟩) h, fun h => (show 7 < a.1 ∧ (1 = 1 ∧ (vp_in j (8) ∧ kk (.int (D 7 j.toNatClampNeg) :: st) D a)) from ⟨h.1, rfl, h.2⟩)⟩
theorem aa_d_7_s {L : Nat} {st : List Value} {D : am_D} {a : am_A} {kk : List Value → am_D → am_A → Prop} {j : Int32} {x : Int32} : (am_ast (sd_sh L) 1 (.int x :: .int j :: .ref 7 :: st) D a kk) = (7 < a.1 ∧ (vp_in j (8) ∧ kk st (am_up D 7 j.toNatClampNeg (vp_nar .boolean x)) a)) := propext ⟨fun h => (fun h : 7 < a.1 ∧ (1 = 1 ∧ (vp_in j (8) ∧ kk st (am_up D 7 j.toNatClampNeg (vp_nar .boolean x)) a)) => ⟨h.1, h.2.2⟩) h, fun h => (show 7 < a.1 ∧ (1 = 1 ∧ (vp_in j (8) ∧ kk st (am_up D 7 j.toNatClampNeg (vp_nar .boolean x)) a)) from ⟨h.1, rfl, h.2⟩)⟩
theorem aa_d_8_l {L : Nat} {st : List Value} {D : am_D} {a : am_A} {kk : List Value → am_D → am_A → Prop} {j : Int32} : (am_ald (sd_sh L) 0 (.int j :: .ref 8 :: st) D a kk) = (8 < a.1 ∧ (vp_in j (9) ∧ kk (.int (D 8 j.toNatClampNeg) :: st) D a)) := propext ⟨fun h => (fun h : 8 < a.1 ∧ (0 = 0 ∧ (vp_in j (9) ∧ kk (.int (D 8 j.toNatClampNeg) :: st) D a)) => ⟨h.1, h.2.2⟩) h, fun h => (show 8 < a.1 ∧ (0 = 0 ∧ (vp_in j (9) ∧ kk (.int (D 8 j.toNatClampNeg) :: st) D a)) from ⟨h.1, rfl, h.2⟩)⟩
theorem aa_d_8_s {L : Nat} {st : List Value} {D : am_D} {a : am_A} {kk : List Value → am_D → am_A → Prop} {j : Int32} {x : Int32} : (am_ast (sd_sh L) 0 (.int x :: .int j :: .ref 8 :: st) D a kk) = (8 < a.1 ∧ (vp_in j (9) ∧ kk st (am_up D 8 j.toNatClampNeg (x)) a)) := propext ⟨fun h => (fun h : 8 < a.1 ∧ (0 = 0 ∧ (vp_in j (9) ∧ kk st (am_up D 8 j.toNatClampNeg (x)) a)) => ⟨h.1, h.2.2⟩) h, fun h => (show 8 < a.1 ∧ (0 = 0 ∧ (vp_in j (9) ∧ kk st (am_up D 8 j.toNatClampNeg (x)) a)) from ⟨h.1, rfl, h.2⟩)⟩
theorem aa_d_8_n {L : Nat} {st : List Value} {D : am_D} {a : am_A} {kk : List Value → am_D → am_A → Prop} : (am_alen (sd_sh L) (.ref 8 :: st) D a kk) = (8 < a.1 ∧ kk (.int (Int32.ofNat (9)) :: st) D a) := propext ⟨fun h => (fun h : 8 < a.1 ∧ (0 = 0 ∧ kk (.int (Int32.ofNat (9)) :: st) D a) => ⟨h.1, h.2.2⟩) h, fun h => (show 8 < a.1 ∧ (0 = 0 ∧ kk (.int (Int32.ofNat (9)) :: st) D a) from ⟨h.1, rfl, h.2⟩)⟩
theorem aa_d_10_l {L : Nat} {st : List Value} {D : am_D} {a : am_A} {kk : List Value → am_D → am_A → Prop} {j : Int32} : (am_ald (sd_sh L) 0 (.int j :: .ref 10 :: st) D a kk) = (10 < a.1 ∧ (vp_in j (512) ∧ kk (.int (D 10 j.toNatClampNeg) :: st) D a)) := propext ⟨fun h => (fun h : 10 < a.1 ∧ (0 = 0 ∧ (vp_in j (512) ∧ kk (.int (D 10 j.toNatClampNeg) :: st) D a)) => ⟨h.1, h.2.2⟩) h, fun h => (show 10 < a.1 ∧ (0 = 0 ∧ (vp_in j (512) ∧ kk (.int (D 10 j.toNatClampNeg) :: st) D a)) from ⟨h.1, rfl, h.2⟩)⟩
theorem aa_d_10_s {L : Nat} {st : List Value} {D : am_D} {a : am_A} {kk : List Value → am_D → am_A → Prop} {j : Int32} {x : Int32} : (am_ast (sd_sh L) 0 (.int x :: .int j :: .ref 10 :: st) D a kk) = (10 < a.1 ∧ (vp_in j (512) ∧ kk st (am_up D 10 j.toNatClampNeg (x)) a)) := propext ⟨fun h => (fun h : 10 < a.1 ∧ (0 = 0 ∧ (vp_in j (512) ∧ kk st (am_up D 10 j.toNatClampNeg (x)) a)) => ⟨h.1, h.2.2⟩) h, fun h => (show 10 < a.1 ∧ (0 = 0 ∧ (vp_in j (512) ∧ kk st (am_up D 10 j.toNatClampNeg (x)) a)) from ⟨h.1, rfl, h.2⟩)⟩
theorem aa_d_10_n {L : Nat} {st : List Value} {D : am_D} {a : am_A} {kk : List Value → am_D → am_A → Prop} : (am_alen (sd_sh L) (.ref 10 :: st) D a kk) = (10 < a.1 ∧ kk (.int (Int32.ofNat (512)) :: st) D a) := propext ⟨fun h => (fun h : 10 < a.1 ∧ (0 = 0 ∧ kk (.int (Int32.ofNat (512)) :: st) D a) => ⟨h.1, h.2.2⟩) h, fun h => (show 10 < a.1 ∧ (0 = 0 ∧ kk (.int (Int32.ofNat (512)) :: st) D a) from ⟨h.1, rfl, h.2⟩)⟩
theorem aa_d_11_l {L : Nat} {st : List Value} {D : am_D} {a : am_A} {kk : List Value → am_D → am_A → Prop} {j : Int32} : (am_ald (sd_sh L) 0 (.int j :: .ref 11 :: st) D a kk) = (11 < a.1 ∧ (vp_in j (512) ∧ kk (.int (D 11 j.toNatClampNeg) :: st) D a)) := propext ⟨fun h => (fun h : 11 < a.1 ∧ (0 = 0 ∧ (vp_in j (512) ∧ kk (.int (D 11 j.toNatClampNeg) :: st) D a)) => ⟨h.1, h.2.2⟩) h, fun h => (show 11 < a.1 ∧ (0 = 0 ∧ (vp_in j (512) ∧ kk (.int (D 11 j.toNatClampNeg) :: st) D a)) from ⟨h.1, rfl, h.2⟩)⟩
theorem aa_d_11_s {L : Nat} {st : List Value} {D : am_D} {a : am_A} {kk : List Value → am_D → am_A → Prop} {j : Int32} {x : Int32} : (am_ast (sd_sh L) 0 (.int x :: .int j :: .ref 11 :: st) D a kk) = (11 < a.1 ∧ (vp_in j (512) ∧ kk st (am_up D 11 j.toNatClampNeg (x)) a)) := propext ⟨fun h => (fun h : 11 < a.1 ∧ (0 = 0 ∧ (vp_in j (512) ∧ kk st (am_up D 11 j.toNatClampNeg (x)) a)) => ⟨h.1, h.2.2⟩) h, fun h => (show 11 < a.1 ∧ (0 = 0 ∧ (vp_in j (512) ∧ kk st (am_up D 11 j.toNatClampNeg (x)) a)) from ⟨h.1, rfl, h.2⟩)⟩
theorem aa_d_11_n {L : Nat} {st : List Value} {D : am_D} {a : am_A} {kk : List Value → am_D → am_A → Prop} : (am_alen (sd_sh L) (.ref 11 :: st) D a kk) = (11 < a.1 ∧ kk (.int (Int32.ofNat (512)) :: st) D a) := propext ⟨fun h => (fun h : 11 < a.1 ∧ (0 = 0 ∧ kk (.int (Int32.ofNat (512)) :: st) D a) => ⟨h.1, h.2.2⟩) h, fun h => (show 11 < a.1 ∧ (0 = 0 ∧ kk (.int (Int32.ofNat (512)) :: st) D a) from ⟨h.1, rfl, h.2⟩)⟩
theorem aa_d_12_l {L : Nat} {st : List Value} {D : am_D} {a : am_A} {kk : List Value → am_D → am_A → Prop} {j : Int32} : (am_ald (sd_sh L) 2 (.int j :: .ref 12 :: st) D a kk) = (12 < a.1 ∧ (vp_in j (150) ∧ kk (am_rf (D 12 j.toNatClampNeg) :: st) D a)) := propext ⟨fun h => (fun h : 12 < a.1 ∧ (2 = 2 ∧ (vp_in j (150) ∧ kk (am_rf (D 12 j.toNatClampNeg) :: st) D a)) => ⟨h.1, h.2.2⟩) h, fun h => (show 12 < a.1 ∧ (2 = 2 ∧ (vp_in j (150) ∧ kk (am_rf (D 12 j.toNatClampNeg) :: st) D a)) from ⟨h.1, rfl, h.2⟩)⟩
theorem aa_d_12_q {L : Nat} {A B : Prop} : (am_sel ((sd_sh L) 12) A B) = (A) := am_nr rfl
theorem aa_d_13_l {L : Nat} {st : List Value} {D : am_D} {a : am_A} {kk : List Value → am_D → am_A → Prop} {j : Int32} : (am_ald (sd_sh L) 3 (.int j :: .ref 13 :: st) D a kk) = (13 < a.1 ∧ (vp_in j (4) ∧ kk (am_rf (D 13 j.toNatClampNeg) :: st) D a)) := propext ⟨fun h => (fun h : 13 < a.1 ∧ (3 = 3 ∧ (vp_in j (4) ∧ kk (am_rf (D 13 j.toNatClampNeg) :: st) D a)) => ⟨h.1, h.2.2⟩) h, fun h => (show 13 < a.1 ∧ (3 = 3 ∧ (vp_in j (4) ∧ kk (am_rf (D 13 j.toNatClampNeg) :: st) D a)) from ⟨h.1, rfl, h.2⟩)⟩
theorem aa_d_13_q {L : Nat} {A B : Prop} : (am_sel ((sd_sh L) 13) A B) = (B) := am_nr rfl
theorem aa_d_14_l {L : Nat} {st : List Value} {D : am_D} {a : am_A} {kk : List Value → am_D → am_A → Prop} {j : Int32} : (am_ald (sd_sh L) 0 (.int j :: .ref 14 :: st) D a kk) = (14 < a.1 ∧ (vp_in j (L) ∧ kk (.int (D 14 j.toNatClampNeg) :: st) D a)) := propext ⟨fun h => (fun h : 14 < a.1 ∧ (0 = 0 ∧ (vp_in j (L) ∧ kk (.int (D 14 j.toNatClampNeg) :: st) D a)) => ⟨h.1, h.2.2⟩) h, fun h => (show 14 < a.1 ∧ (0 = 0 ∧ (vp_in j (L) ∧ kk (.int (D 14 j.toNatClampNeg) :: st) D a)) from ⟨h.1, rfl, h.2⟩)⟩
theorem aa_d_14_s {L : Nat} {st : List Value} {D : am_D} {a : am_A} {kk : List Value → am_D → am_A → Prop} {j : Int32} {x : Int32} : (am_ast (sd_sh L) 0 (.int x :: .int j :: .ref 14 :: st) D a kk) = (14 < a.1 ∧ (vp_in j (L) ∧ kk st (am_up D 14 j.toNatClampNeg (x)) a)) := propext ⟨fun h => (fun h : 14 < a.1 ∧ (0 = 0 ∧ (vp_in j (L) ∧ kk st (am_up D 14 j.toNatClampNeg (x)) a)) => ⟨h.1, h.2.2⟩) h, fun h => (show 14 < a.1 ∧ (0 = 0 ∧ (vp_in j (L) ∧ kk st (am_up D 14 j.toNatClampNeg (x)) a)) from ⟨h.1, rfl, h.2⟩)⟩
theorem aa_d_14_n {L : Nat} {st : List Value} {D : am_D} {a : am_A} {kk : List Value → am_D → am_A → Prop} : (am_alen (sd_sh L) (.ref 14 :: st) D a kk) = (14 < a.1 ∧ kk (.int (Int32.ofNat (L)) :: st) D a) := propext ⟨fun h => (fun h : 14 < a.1 ∧ (0 = 0 ∧ kk (.int (Int32.ofNat (L)) :: st) D a) => ⟨h.1, h.2.2⟩) h, fun h => (show 14 < a.1 ∧ (0 = 0 ∧ kk (.int (Int32.ofNat (L)) :: st) D a) from ⟨h.1, rfl, h.2⟩)⟩
theorem aa_d_15_l {L : Nat} {st : List Value} {D : am_D} {a : am_A} {kk : List Value → am_D → am_A → Prop} {j : Int32} : (am_ald (sd_sh L) 0 (.int j :: .ref 15 :: st) D a kk) = (15 < a.1 ∧ (vp_in j (L) ∧ kk (.int (D 15 j.toNatClampNeg) :: st) D a)) := propext ⟨fun h => (fun h : 15 < a.1 ∧ (0 = 0 ∧ (vp_in j (L) ∧ kk (.int (D 15 j.toNatClampNeg) :: st) D a)) => ⟨h.1, h.2.2⟩) h, fun h => (show 15 < a.1 ∧ (0 = 0 ∧ (vp_in j (L) ∧ kk (.int (D 15 j.toNatClampNeg) :: st) D a)) from ⟨h.1, rfl, h.2⟩)⟩
theorem aa_d_15_s {L : Nat} {st : List Value} {D : am_D} {a : am_A} {kk : List Value → am_D → am_A → Prop} {j : Int32} {x : Int32} : (am_ast (sd_sh L) 0 (.int x :: .int j :: .ref 15 :: st) D a kk) = (15 < a.1 ∧ (vp_in j (L) ∧ kk st (am_up D 15 j.toNatClampNeg (x)) a)) := propext ⟨fun h => (fun h : 15 < a.1 ∧ (0 = 0 ∧ (vp_in j (L) ∧ kk st (am_up D 15 j.toNatClampNeg (x)) a)) => ⟨h.1, h.2.2⟩) h, fun h => (show 15 < a.1 ∧ (0 = 0 ∧ (vp_in j (L) ∧ kk st (am_up D 15 j.toNatClampNeg (x)) a)) from ⟨h.1, rfl, h.2⟩)⟩
theorem aa_d_15_n {L : Nat} {st : List Value} {D : am_D} {a : am_A} {kk : List Value → am_D → am_A → Prop} : (am_alen (sd_sh L) (.ref 15 :: st) D a kk) = (15 < a.1 ∧ kk (.int (Int32.ofNat (L)) :: st) D a) := propext ⟨fun h => (fun h : 15 < a.1 ∧ (0 = 0 ∧ kk (.int (Int32.ofNat (L)) :: st) D a) => ⟨h.1, h.2.2⟩) h, fun h => (show 15 < a.1 ∧ (0 = 0 ∧ kk (.int (Int32.ofNat (L)) :: st) D a) from ⟨h.1, rfl, h.2⟩)⟩
theorem aa_d_16_l {L : Nat} {st : List Value} {D : am_D} {a : am_A} {kk : List Value → am_D → am_A → Prop} {j : Int32} : (am_ald (sd_sh L) 0 (.int j :: .ref 16 :: st) D a kk) = (16 < a.1 ∧ (vp_in j (L) ∧ kk (.int (D 16 j.toNatClampNeg) :: st) D a)) := propext ⟨fun h => (fun h : 16 < a.1 ∧ (0 = 0 ∧ (vp_in j (L) ∧ kk (.int (D 16 j.toNatClampNeg) :: st) D a)) => ⟨h.1, h.2.2⟩) h, fun h => (show 16 < a.1 ∧ (0 = 0 ∧ (vp_in j (L) ∧ kk (.int (D 16 j.toNatClampNeg) :: st) D a)) from ⟨h.1, rfl, h.2⟩)⟩
theorem aa_d_16_s {L : Nat} {st : List Value} {D : am_D} {a : am_A} {kk : List Value → am_D → am_A → Prop} {j : Int32} {x : Int32} : (am_ast (sd_sh L) 0 (.int x :: .int j :: .ref 16 :: st) D a kk) = (16 < a.1 ∧ (vp_in j (L) ∧ kk st (am_up D 16 j.toNatClampNeg (x)) a)) := propext ⟨fun h => (fun h : 16 < a.1 ∧ (0 = 0 ∧ (vp_in j (L) ∧ kk st (am_up D 16 j.toNatClampNeg (x)) a)) => ⟨h.1, h.2.2⟩) h, fun h => (show 16 < a.1 ∧ (0 = 0 ∧ (vp_in j (L) ∧ kk st (am_up D 16 j.toNatClampNeg (x)) a)) from ⟨h.1, rfl, h.2⟩)⟩
theorem aa_d_16_n {L : Nat} {st : List Value} {D : am_D} {a : am_A} {kk : List Value → am_D → am_A → Prop} : (am_alen (sd_sh L) (.ref 16 :: st) D a kk) = (16 < a.1 ∧ kk (.int (Int32.ofNat (L)) :: st) D a) := propext ⟨fun h => (fun h : 16 < a.1 ∧ (0 = 0 ∧ kk (.int (Int32.ofNat (L)) :: st) D a) => ⟨h.1, h.2.2⟩) h, fun h => (show 16 < a.1 ∧ (0 = 0 ∧ kk (.int (Int32.ofNat (L)) :: st) D a) from ⟨h.1, rfl, h.2⟩)⟩
theorem aa_d_17_l {L : Nat} {st : List Value} {D : am_D} {a : am_A} {kk : List Value → am_D → am_A → Prop} {j : Int32} : (am_ald (sd_sh L) 0 (.int j :: .ref 17 :: st) D a kk) = (17 < a.1 ∧ (vp_in j (L) ∧ kk (.int (D 17 j.toNatClampNeg) :: st) D a)) := propext ⟨fun h => (fun h : 17 < a.1 ∧ (0 = 0 ∧ (vp_in j (L) ∧ kk (.int (D 17 j.toNatClampNeg) :: st) D a)) => ⟨h.1, h.2.2⟩) h, fun h => (show 17 < a.1 ∧ (0 = 0 ∧ (vp_in j (L) ∧ kk (.int (D 17 j.toNatClampNeg) :: st) D a)) from ⟨h.1, rfl, h.2⟩)⟩
theorem aa_d_17_s {L : Nat} {st : List Value} {D : am_D} {a : am_A} {kk : List Value → am_D → am_A → Prop} {j : Int32} {x : Int32} : (am_ast (sd_sh L) 0 (.int x :: .int j :: .ref 17 :: st) D a kk) = (17 < a.1 ∧ (vp_in j (L) ∧ kk st (am_up D 17 j.toNatClampNeg (x)) a)) := propext ⟨fun h => (fun h : 17 < a.1 ∧ (0 = 0 ∧ (vp_in j (L) ∧ kk st (am_up D 17 j.toNatClampNeg (x)) a)) => ⟨h.1, h.2.2⟩) h, fun h => (show 17 < a.1 ∧ (0 = 0 ∧ (vp_in j (L) ∧ kk st (am_up D 17 j.toNatClampNeg (x)) a)) from ⟨h.1, rfl, h.2⟩)⟩
theorem aa_d_17_n {L : Nat} {st : List Value} {D : am_D} {a : am_A} {kk : List Value → am_D → am_A → Prop} : (am_alen (sd_sh L) (.ref 17 :: st) D a kk) = (17 < a.1 ∧ kk (.int (Int32.ofNat (L)) :: st) D a) := propext ⟨fun h => (fun h : 17 < a.1 ∧ (0 = 0 ∧ kk (.int (Int32.ofNat (L)) :: st) D a) => ⟨h.1, h.2.2⟩) h, fun h => (show 17 < a.1 ∧ (0 = 0 ∧ kk (.int (Int32.ofNat (L)) :: st) D a) from ⟨h.1, rfl, h.2⟩)⟩
theorem aa_d_18_l {L : Nat} {st : List Value} {D : am_D} {a : am_A} {kk : List Value → am_D → am_A → Prop} {j : Int32} : (am_ald (sd_sh L) 2 (.int j :: .ref 18 :: st) D a kk) = (18 < a.1 ∧ (vp_in j (150) ∧ kk (am_rf (D 18 j.toNatClampNeg) :: st) D a)) := propext ⟨fun h => (fun h : 18 < a.1 ∧ (2 = 2 ∧ (vp_in j (150) ∧ kk (am_rf (D 18 j.toNatClampNeg) :: st) D a)) => ⟨h.1, h.2.2⟩) h, fun h => (show 18 < a.1 ∧ (2 = 2 ∧ (vp_in j (150) ∧ kk (am_rf (D 18 j.toNatClampNeg) :: st) D a)) from ⟨h.1, rfl, h.2⟩)⟩
theorem aa_d_18_q {L : Nat} {A B : Prop} : (am_sel ((sd_sh L) 18) A B) = (A) := am_nr rfl
theorem aa_d_19_l {L : Nat} {st : List Value} {D : am_D} {a : am_A} {kk : List Value → am_D → am_A → Prop} {j : Int32} : (am_ald (sd_sh L) 0 (.int j :: .ref 19 :: st) D a kk) = (19 < a.1 ∧ (vp_in j (150) ∧ kk (.int (D 19 j.toNatClampNeg) :: st) D a)) := propext ⟨fun h => (fun h : 19 < a.1 ∧ (0 = 0 ∧ (vp_in j (150) ∧ kk (.int (D 19 j.toNatClampNeg) :: st) D a)) => ⟨h.1, h.2.2⟩) h, fun h => (show 19 < a.1 ∧ (0 = 0 ∧ (vp_in j (150) ∧ kk (.int (D 19 j.toNatClampNeg) :: st) D a)) from ⟨h.1, rfl, h.2⟩)⟩
theorem aa_d_19_s {L : Nat} {st : List Value} {D : am_D} {a : am_A} {kk : List Value → am_D → am_A → Prop} {j : Int32} {x : Int32} : (am_ast (sd_sh L) 0 (.int x :: .int j :: .ref 19 :: st) D a kk) = (19 < a.1 ∧ (vp_in j (150) ∧ kk st (am_up D 19 j.toNatClampNeg (x)) a)) := propext ⟨fun h => (fun h : 19 < a.1 ∧ (0 = 0 ∧ (vp_in j (150) ∧ kk st (am_up D 19 j.toNatClampNeg (x)) a)) => ⟨h.1, h.2.2⟩) h, fun h => (show 19 < a.1 ∧ (0 = 0 ∧ (vp_in j (150) ∧ kk st (am_up D 19 j.toNatClampNeg (x)) a)) from ⟨h.1, rfl, h.2⟩)⟩
theorem aa_d_19_n {L : Nat} {st : List Value} {D : am_D} {a : am_A} {kk : List Value → am_D → am_A → Prop} : (am_alen (sd_sh L) (.ref 19 :: st) D a kk) = (19 < a.1 ∧ kk (.int (Int32.ofNat (150)) :: st) D a) := propext ⟨fun h => (fun h : 19 < a.1 ∧ (0 = 0 ∧ kk (.int (Int32.ofNat (150)) :: st) D a) => ⟨h.1, h.2.2⟩) h, fun h => (show 19 < a.1 ∧ (0 = 0 ∧ kk (.int (Int32.ofNat (150)) :: st) D a) from ⟨h.1, rfl, h.2⟩)⟩
theorem aa_d_20_l {L : Nat} {st : List Value} {D : am_D} {a : am_A} {kk : List Value → am_D → am_A → Prop} {j : Int32} : (am_ald (sd_sh L) 0 (.int j :: .ref 20 :: st) D a kk) = (20 < a.1 ∧ (vp_in j (80) ∧ kk (.int (D 20 j.toNatClampNeg) :: st) D a)) := propext ⟨fun h => (fun h : 20 < a.1 ∧ (0 = 0 ∧ (vp_in j (80) ∧ kk (.int (D 20 j.toNatClampNeg) :: st) D a)) => ⟨h.1, h.2.2⟩) h, fun h => (show 20 < a.1 ∧ (0 = 0 ∧ (vp_in j (80) ∧ kk (.int (D 20 j.toNatClampNeg) :: st) D a)) from ⟨h.1, rfl, h.2⟩)⟩
theorem aa_d_20_s {L : Nat} {st : List Value} {D : am_D} {a : am_A} {kk : List Value → am_D → am_A → Prop} {j : Int32} {x : Int32} : (am_ast (sd_sh L) 0 (.int x :: .int j :: .ref 20 :: st) D a kk) = (20 < a.1 ∧ (vp_in j (80) ∧ kk st (am_up D 20 j.toNatClampNeg (x)) a)) := propext ⟨fun h => (fun h : 20 < a.1 ∧ (0 = 0 ∧ (vp_in j (80) ∧ kk st (am_up D 20 j.toNatClampNeg (x)) a)) => ⟨h.1, h.2.2⟩) h, fun h => (show 20 < a.1 ∧ (0 = 0 ∧ (vp_in j (80) ∧ kk st (am_up D 20 j.toNatClampNeg (x)) a)) from ⟨h.1, rfl, h.2⟩)⟩
theorem aa_d_20_n {L : Nat} {st : List Value} {D : am_D} {a : am_A} {kk : List Value → am_D → am_A → Prop} : (am_alen (sd_sh L) (.ref 20 :: st) D a kk) = (20 < a.1 ∧ kk (.int (Int32.ofNat (80)) :: st) D a) := propext ⟨fun h => (fun h : 20 < a.1 ∧ (0 = 0 ∧ kk (.int (Int32.ofNat (80)) :: st) D a) => ⟨h.1, h.2.2⟩) h, fun h => (show 20 < a.1 ∧ (0 = 0 ∧ kk (.int (Int32.ofNat (80)) :: st) D a) from ⟨h.1, rfl, h.2⟩)⟩
theorem aa_d_pn_l {L i : Nat} {st : List Value} {D : am_D} {a : am_A} {kk : List Value → am_D → am_A → Prop} {j : Int32} : (am_ald (sd_sh L) 0 (.int j :: .ref (sd_pn i) :: st) D a kk) = ((sd_pn i) < a.1 ∧ (vp_in j (L) ∧ kk (.int (D (sd_pn i) j.toNatClampNeg) :: st) D a)) := by
  have e : (am_ald (sd_sh L) 0 (.int j :: .ref (sd_pn i) :: st) D a kk) = ((sd_pn i) < a.1 ∧ (0 = 0 ∧ (vp_in j (L) ∧ kk (.int (D (sd_pn i) j.toNatClampNeg) :: st) D a))) := by
    show (_ ∧ am_ar ((sd_sh L) (sd_pn i)) _ _) = _
    rw [sd_sh_pn]
    rfl
  rw [e]
  exact propext ⟨fun h => ⟨h.1, h.2.2⟩, fun h => ⟨h.1, rfl, h.2⟩⟩
theorem aa_d_pn_s {L i : Nat} {st : List Value} {D : am_D} {a : am_A} {kk : List Value → am_D → am_A → Prop} {j : Int32} {x : Int32} : (am_ast (sd_sh L) 0 (.int x :: .int j :: .ref (sd_pn i) :: st) D a kk) = ((sd_pn i) < a.1 ∧ (vp_in j (L) ∧ kk st (am_up D (sd_pn i) j.toNatClampNeg (x)) a)) := by
  have e : (am_ast (sd_sh L) 0 (.int x :: .int j :: .ref (sd_pn i) :: st) D a kk) = ((sd_pn i) < a.1 ∧ (0 = 0 ∧ (vp_in j (L) ∧ kk st (am_up D (sd_pn i) j.toNatClampNeg (x)) a))) := by
    show (_ ∧ am_ar ((sd_sh L) (sd_pn i)) _ _) = _
    rw [sd_sh_pn]
    rfl
  rw [e]
  exact propext ⟨fun h => ⟨h.1, h.2.2⟩, fun h => ⟨h.1, rfl, h.2⟩⟩
theorem aa_d_pn_n {L i : Nat} {st : List Value} {D : am_D} {a : am_A} {kk : List Value → am_D → am_A → Prop} : (am_alen (sd_sh L) (.ref (sd_pn i) :: st) D a kk) = ((sd_pn i) < a.1 ∧ kk (.int (Int32.ofNat (L)) :: st) D a) := by
  have e : (am_alen (sd_sh L) (.ref (sd_pn i) :: st) D a kk) = ((sd_pn i) < a.1 ∧ (0 = 0 ∧ kk (.int (Int32.ofNat (L)) :: st) D a)) := by
    show (_ ∧ am_ar ((sd_sh L) (sd_pn i)) _ _) = _
    rw [sd_sh_pn]
    rfl
  rw [e]
  exact propext ⟨fun h => ⟨h.1, h.2.2⟩, fun h => ⟨h.1, rfl, h.2⟩⟩
theorem aa_m_1_l {st : List Value} {D : am_D} {a : am_A} {kk : List Value → am_D → am_A → Prop} {j : Int32} : (am_ald sm_sh 0 (.int j :: .ref 1 :: st) D a kk) = (1 < a.1 ∧ (vp_in j (9) ∧ kk (.int (D 1 j.toNatClampNeg) :: st) D a)) := propext ⟨fun h => (fun h : 1 < a.1 ∧ (0 = 0 ∧ (vp_in j (9) ∧ kk (.int (D 1 j.toNatClampNeg) :: st) D a)) => ⟨h.1, h.2.2⟩) h, fun h => (show 1 < a.1 ∧ (0 = 0 ∧ (vp_in j (9) ∧ kk (.int (D 1 j.toNatClampNeg) :: st) D a)) from ⟨h.1, rfl, h.2⟩)⟩
theorem aa_m_1_s {st : List Value} {D : am_D} {a : am_A} {kk : List Value → am_D → am_A → Prop} {j : Int32} {x : Int32} : (am_ast sm_sh 0 (.int x :: .int j :: .ref 1 :: st) D a kk) = (1 < a.1 ∧ (vp_in j (9) ∧ kk st (am_up D 1 j.toNatClampNeg (x)) a)) := propext ⟨fun h => (fun h : 1 < a.1 ∧ (0 = 0 ∧ (vp_in j (9) ∧ kk st (am_up D 1 j.toNatClampNeg (x)) a)) => ⟨h.1, h.2.2⟩) h, fun h => (show 1 < a.1 ∧ (0 = 0 ∧ (vp_in j (9) ∧ kk st (am_up D 1 j.toNatClampNeg (x)) a)) from ⟨h.1, rfl, h.2⟩)⟩
theorem aa_m_1_n {st : List Value} {D : am_D} {a : am_A} {kk : List Value → am_D → am_A → Prop} : (am_alen sm_sh (.ref 1 :: st) D a kk) = (1 < a.1 ∧ kk (.int (Int32.ofNat (9)) :: st) D a) := propext ⟨fun h => (fun h : 1 < a.1 ∧ (0 = 0 ∧ kk (.int (Int32.ofNat (9)) :: st) D a) => ⟨h.1, h.2.2⟩) h, fun h => (show 1 < a.1 ∧ (0 = 0 ∧ kk (.int (Int32.ofNat (9)) :: st) D a) from ⟨h.1, rfl, h.2⟩)⟩
theorem aa_m_2_l {st : List Value} {D : am_D} {a : am_A} {kk : List Value → am_D → am_A → Prop} {j : Int32} : (am_ald sm_sh 0 (.int j :: .ref 2 :: st) D a kk) = (2 < a.1 ∧ (vp_in j (8) ∧ kk (.int (D 2 j.toNatClampNeg) :: st) D a)) := propext ⟨fun h => (fun h : 2 < a.1 ∧ (0 = 0 ∧ (vp_in j (8) ∧ kk (.int (D 2 j.toNatClampNeg) :: st) D a)) => ⟨h.1, h.2.2⟩) h, fun h => (show 2 < a.1 ∧ (0 = 0 ∧ (vp_in j (8) ∧ kk (.int (D 2 j.toNatClampNeg) :: st) D a)) from ⟨h.1, rfl, h.2⟩)⟩
theorem aa_m_2_s {st : List Value} {D : am_D} {a : am_A} {kk : List Value → am_D → am_A → Prop} {j : Int32} {x : Int32} : (am_ast sm_sh 0 (.int x :: .int j :: .ref 2 :: st) D a kk) = (2 < a.1 ∧ (vp_in j (8) ∧ kk st (am_up D 2 j.toNatClampNeg (x)) a)) := propext ⟨fun h => (fun h : 2 < a.1 ∧ (0 = 0 ∧ (vp_in j (8) ∧ kk st (am_up D 2 j.toNatClampNeg (x)) a)) => ⟨h.1, h.2.2⟩) h, fun h => (show 2 < a.1 ∧ (0 = 0 ∧ (vp_in j (8) ∧ kk st (am_up D 2 j.toNatClampNeg (x)) a)) from ⟨h.1, rfl, h.2⟩)⟩
theorem aa_m_2_n {st : List Value} {D : am_D} {a : am_A} {kk : List Value → am_D → am_A → Prop} : (am_alen sm_sh (.ref 2 :: st) D a kk) = (2 < a.1 ∧ kk (.int (Int32.ofNat (8)) :: st) D a) := propext ⟨fun h => (fun h : 2 < a.1 ∧ (0 = 0 ∧ kk (.int (Int32.ofNat (8)) :: st) D a) => ⟨h.1, h.2.2⟩) h, fun h => (show 2 < a.1 ∧ (0 = 0 ∧ kk (.int (Int32.ofNat (8)) :: st) D a) from ⟨h.1, rfl, h.2⟩)⟩
theorem aa_m_3_l {st : List Value} {D : am_D} {a : am_A} {kk : List Value → am_D → am_A → Prop} {j : Int32} : (am_ald sm_sh 1 (.int j :: .ref 3 :: st) D a kk) = (3 < a.1 ∧ (vp_in j (8) ∧ kk (.int (D 3 j.toNatClampNeg) :: st) D a)) := propext ⟨fun h => (fun h : 3 < a.1 ∧ (1 = 1 ∧ (vp_in j (8) ∧ kk (.int (D 3 j.toNatClampNeg) :: st) D a)) => ⟨h.1, h.2.2⟩) h, fun h => (show 3 < a.1 ∧ (1 = 1 ∧ (vp_in j (8) ∧ kk (.int (D 3 j.toNatClampNeg) :: st) D a)) from ⟨h.1, rfl, h.2⟩)⟩
theorem aa_m_3_s {st : List Value} {D : am_D} {a : am_A} {kk : List Value → am_D → am_A → Prop} {j : Int32} {x : Int32} : (am_ast sm_sh 1 (.int x :: .int j :: .ref 3 :: st) D a kk) = (3 < a.1 ∧ (vp_in j (8) ∧ kk st (am_up D 3 j.toNatClampNeg (vp_nar .boolean x)) a)) := propext ⟨fun h => (fun h : 3 < a.1 ∧ (1 = 1 ∧ (vp_in j (8) ∧ kk st (am_up D 3 j.toNatClampNeg (vp_nar .boolean x)) a)) => ⟨h.1, h.2.2⟩) h, fun h => (show 3 < a.1 ∧ (1 = 1 ∧ (vp_in j (8) ∧ kk st (am_up D 3 j.toNatClampNeg (vp_nar .boolean x)) a)) from ⟨h.1, rfl, h.2⟩)⟩
theorem aa_m_4_l {st : List Value} {D : am_D} {a : am_A} {kk : List Value → am_D → am_A → Prop} {j : Int32} : (am_ald sm_sh 0 (.int j :: .ref 4 :: st) D a kk) = (4 < a.1 ∧ (vp_in j (80) ∧ kk (.int (D 4 j.toNatClampNeg) :: st) D a)) := propext ⟨fun h => (fun h : 4 < a.1 ∧ (0 = 0 ∧ (vp_in j (80) ∧ kk (.int (D 4 j.toNatClampNeg) :: st) D a)) => ⟨h.1, h.2.2⟩) h, fun h => (show 4 < a.1 ∧ (0 = 0 ∧ (vp_in j (80) ∧ kk (.int (D 4 j.toNatClampNeg) :: st) D a)) from ⟨h.1, rfl, h.2⟩)⟩
theorem aa_m_4_s {st : List Value} {D : am_D} {a : am_A} {kk : List Value → am_D → am_A → Prop} {j : Int32} {x : Int32} : (am_ast sm_sh 0 (.int x :: .int j :: .ref 4 :: st) D a kk) = (4 < a.1 ∧ (vp_in j (80) ∧ kk st (am_up D 4 j.toNatClampNeg (x)) a)) := propext ⟨fun h => (fun h : 4 < a.1 ∧ (0 = 0 ∧ (vp_in j (80) ∧ kk st (am_up D 4 j.toNatClampNeg (x)) a)) => ⟨h.1, h.2.2⟩) h, fun h => (show 4 < a.1 ∧ (0 = 0 ∧ (vp_in j (80) ∧ kk st (am_up D 4 j.toNatClampNeg (x)) a)) from ⟨h.1, rfl, h.2⟩)⟩
theorem aa_m_4_n {st : List Value} {D : am_D} {a : am_A} {kk : List Value → am_D → am_A → Prop} : (am_alen sm_sh (.ref 4 :: st) D a kk) = (4 < a.1 ∧ kk (.int (Int32.ofNat (80)) :: st) D a) := propext ⟨fun h => (fun h : 4 < a.1 ∧ (0 = 0 ∧ kk (.int (Int32.ofNat (80)) :: st) D a) => ⟨h.1, h.2.2⟩) h, fun h => (show 4 < a.1 ∧ (0 = 0 ∧ kk (.int (Int32.ofNat (80)) :: st) D a) from ⟨h.1, rfl, h.2⟩)⟩
theorem aa_m_5_l {st : List Value} {D : am_D} {a : am_A} {kk : List Value → am_D → am_A → Prop} {j : Int32} : (am_ald sm_sh 0 (.int j :: .ref 5 :: st) D a kk) = (5 < a.1 ∧ (vp_in j (116) ∧ kk (.int (D 5 j.toNatClampNeg) :: st) D a)) := propext ⟨fun h => (fun h : 5 < a.1 ∧ (0 = 0 ∧ (vp_in j (116) ∧ kk (.int (D 5 j.toNatClampNeg) :: st) D a)) => ⟨h.1, h.2.2⟩) h, fun h => (show 5 < a.1 ∧ (0 = 0 ∧ (vp_in j (116) ∧ kk (.int (D 5 j.toNatClampNeg) :: st) D a)) from ⟨h.1, rfl, h.2⟩)⟩
theorem aa_m_5_s {st : List Value} {D : am_D} {a : am_A} {kk : List Value → am_D → am_A → Prop} {j : Int32} {x : Int32} : (am_ast sm_sh 0 (.int x :: .int j :: .ref 5 :: st) D a kk) = (5 < a.1 ∧ (vp_in j (116) ∧ kk st (am_up D 5 j.toNatClampNeg (x)) a)) := propext ⟨fun h => (fun h : 5 < a.1 ∧ (0 = 0 ∧ (vp_in j (116) ∧ kk st (am_up D 5 j.toNatClampNeg (x)) a)) => ⟨h.1, h.2.2⟩) h, fun h => (show 5 < a.1 ∧ (0 = 0 ∧ (vp_in j (116) ∧ kk st (am_up D 5 j.toNatClampNeg (x)) a)) from ⟨h.1, rfl, h.2⟩)⟩
theorem aa_m_5_n {st : List Value} {D : am_D} {a : am_A} {kk : List Value → am_D → am_A → Prop} : (am_alen sm_sh (.ref 5 :: st) D a kk) = (5 < a.1 ∧ kk (.int (Int32.ofNat (116)) :: st) D a) := propext ⟨fun h => (fun h : 5 < a.1 ∧ (0 = 0 ∧ kk (.int (Int32.ofNat (116)) :: st) D a) => ⟨h.1, h.2.2⟩) h, fun h => (show 5 < a.1 ∧ (0 = 0 ∧ kk (.int (Int32.ofNat (116)) :: st) D a) from ⟨h.1, rfl, h.2⟩)⟩
theorem aa_m_6_l {st : List Value} {D : am_D} {a : am_A} {kk : List Value → am_D → am_A → Prop} {j : Int32} : (am_ald sm_sh 0 (.int j :: .ref 6 :: st) D a kk) = (6 < a.1 ∧ (vp_in j (150) ∧ kk (.int (D 6 j.toNatClampNeg) :: st) D a)) := propext ⟨fun h => (fun h : 6 < a.1 ∧ (0 = 0 ∧ (vp_in j (150) ∧ kk (.int (D 6 j.toNatClampNeg) :: st) D a)) => ⟨h.1, h.2.2⟩) h, fun h => (show 6 < a.1 ∧ (0 = 0 ∧ (vp_in j (150) ∧ kk (.int (D 6 j.toNatClampNeg) :: st) D a)) from ⟨h.1, rfl, h.2⟩)⟩
theorem aa_m_6_s {st : List Value} {D : am_D} {a : am_A} {kk : List Value → am_D → am_A → Prop} {j : Int32} {x : Int32} : (am_ast sm_sh 0 (.int x :: .int j :: .ref 6 :: st) D a kk) = (6 < a.1 ∧ (vp_in j (150) ∧ kk st (am_up D 6 j.toNatClampNeg (x)) a)) := propext ⟨fun h => (fun h : 6 < a.1 ∧ (0 = 0 ∧ (vp_in j (150) ∧ kk st (am_up D 6 j.toNatClampNeg (x)) a)) => ⟨h.1, h.2.2⟩) h, fun h => (show 6 < a.1 ∧ (0 = 0 ∧ (vp_in j (150) ∧ kk st (am_up D 6 j.toNatClampNeg (x)) a)) from ⟨h.1, rfl, h.2⟩)⟩
theorem aa_m_6_n {st : List Value} {D : am_D} {a : am_A} {kk : List Value → am_D → am_A → Prop} : (am_alen sm_sh (.ref 6 :: st) D a kk) = (6 < a.1 ∧ kk (.int (Int32.ofNat (150)) :: st) D a) := propext ⟨fun h => (fun h : 6 < a.1 ∧ (0 = 0 ∧ kk (.int (Int32.ofNat (150)) :: st) D a) => ⟨h.1, h.2.2⟩) h, fun h => (show 6 < a.1 ∧ (0 = 0 ∧ kk (.int (Int32.ofNat (150)) :: st) D a) from ⟨h.1, rfl, h.2⟩)⟩
theorem aa_m_7_l {st : List Value} {D : am_D} {a : am_A} {kk : List Value → am_D → am_A → Prop} {j : Int32} : (am_ald sm_sh 0 (.int j :: .ref 7 :: st) D a kk) = (7 < a.1 ∧ (vp_in j (150) ∧ kk (.int (D 7 j.toNatClampNeg) :: st) D a)) := propext ⟨fun h => (fun h : 7 < a.1 ∧ (0 = 0 ∧ (vp_in j (150) ∧ kk (.int (D 7 j.toNatClampNeg) :: st) D a)) => ⟨h.1, h.2.2⟩) h, fun h => (show 7 < a.1 ∧ (0 = 0 ∧ (vp_in j (150) ∧ kk (.int (D 7 j.toNatClampNeg) :: st) D a)) from ⟨h.1, rfl, h.2⟩)⟩
theorem aa_m_7_s {st : List Value} {D : am_D} {a : am_A} {kk : List Value → am_D → am_A → Prop} {j : Int32} {x : Int32} : (am_ast sm_sh 0 (.int x :: .int j :: .ref 7 :: st) D a kk) = (7 < a.1 ∧ (vp_in j (150) ∧ kk st (am_up D 7 j.toNatClampNeg (x)) a)) := propext ⟨fun h => (fun h : 7 < a.1 ∧ (0 = 0 ∧ (vp_in j (150) ∧ kk st (am_up D 7 j.toNatClampNeg (x)) a)) => ⟨h.1, h.2.2⟩) h, fun h => (show 7 < a.1 ∧ (0 = 0 ∧ (vp_in j (150) ∧ kk st (am_up D 7 j.toNatClampNeg (x)) a)) from ⟨h.1, rfl, h.2⟩)⟩
theorem aa_m_7_n {st : List Value} {D : am_D} {a : am_A} {kk : List Value → am_D → am_A → Prop} : (am_alen sm_sh (.ref 7 :: st) D a kk) = (7 < a.1 ∧ kk (.int (Int32.ofNat (150)) :: st) D a) := propext ⟨fun h => (fun h : 7 < a.1 ∧ (0 = 0 ∧ kk (.int (Int32.ofNat (150)) :: st) D a) => ⟨h.1, h.2.2⟩) h, fun h => (show 7 < a.1 ∧ (0 = 0 ∧ kk (.int (Int32.ofNat (150)) :: st) D a) from ⟨h.1, rfl, h.2⟩)⟩
theorem aa_m_8_l {st : List Value} {D : am_D} {a : am_A} {kk : List Value → am_D → am_A → Prop} {j : Int32} : (am_ald sm_sh 0 (.int j :: .ref 8 :: st) D a kk) = (8 < a.1 ∧ (vp_in j (150) ∧ kk (.int (D 8 j.toNatClampNeg) :: st) D a)) := propext ⟨fun h => (fun h : 8 < a.1 ∧ (0 = 0 ∧ (vp_in j (150) ∧ kk (.int (D 8 j.toNatClampNeg) :: st) D a)) => ⟨h.1, h.2.2⟩) h, fun h => (show 8 < a.1 ∧ (0 = 0 ∧ (vp_in j (150) ∧ kk (.int (D 8 j.toNatClampNeg) :: st) D a)) from ⟨h.1, rfl, h.2⟩)⟩
theorem aa_m_8_s {st : List Value} {D : am_D} {a : am_A} {kk : List Value → am_D → am_A → Prop} {j : Int32} {x : Int32} : (am_ast sm_sh 0 (.int x :: .int j :: .ref 8 :: st) D a kk) = (8 < a.1 ∧ (vp_in j (150) ∧ kk st (am_up D 8 j.toNatClampNeg (x)) a)) := propext ⟨fun h => (fun h : 8 < a.1 ∧ (0 = 0 ∧ (vp_in j (150) ∧ kk st (am_up D 8 j.toNatClampNeg (x)) a)) => ⟨h.1, h.2.2⟩) h, fun h => (show 8 < a.1 ∧ (0 = 0 ∧ (vp_in j (150) ∧ kk st (am_up D 8 j.toNatClampNeg (x)) a)) from ⟨h.1, rfl, h.2⟩)⟩
theorem aa_m_8_n {st : List Value} {D : am_D} {a : am_A} {kk : List Value → am_D → am_A → Prop} : (am_alen sm_sh (.ref 8 :: st) D a kk) = (8 < a.1 ∧ kk (.int (Int32.ofNat (150)) :: st) D a) := propext ⟨fun h => (fun h : 8 < a.1 ∧ (0 = 0 ∧ kk (.int (Int32.ofNat (150)) :: st) D a) => ⟨h.1, h.2.2⟩) h, fun h => (show 8 < a.1 ∧ (0 = 0 ∧ kk (.int (Int32.ofNat (150)) :: st) D a) from ⟨h.1, rfl, h.2⟩)⟩
theorem aa_m_9_l {st : List Value} {D : am_D} {a : am_A} {kk : List Value → am_D → am_A → Prop} {j : Int32} : (am_ald sm_sh 0 (.int j :: .ref 9 :: st) D a kk) = (9 < a.1 ∧ (vp_in j (150) ∧ kk (.int (D 9 j.toNatClampNeg) :: st) D a)) := propext ⟨fun h => (fun h : 9 < a.1 ∧ (0 = 0 ∧ (vp_in j (150) ∧ kk (.int (D 9 j.toNatClampNeg) :: st) D a)) => ⟨h.1, h.2.2⟩) h, fun h => (show 9 < a.1 ∧ (0 = 0 ∧ (vp_in j (150) ∧ kk (.int (D 9 j.toNatClampNeg) :: st) D a)) from ⟨h.1, rfl, h.2⟩)⟩
theorem aa_m_9_s {st : List Value} {D : am_D} {a : am_A} {kk : List Value → am_D → am_A → Prop} {j : Int32} {x : Int32} : (am_ast sm_sh 0 (.int x :: .int j :: .ref 9 :: st) D a kk) = (9 < a.1 ∧ (vp_in j (150) ∧ kk st (am_up D 9 j.toNatClampNeg (x)) a)) := propext ⟨fun h => (fun h : 9 < a.1 ∧ (0 = 0 ∧ (vp_in j (150) ∧ kk st (am_up D 9 j.toNatClampNeg (x)) a)) => ⟨h.1, h.2.2⟩) h, fun h => (show 9 < a.1 ∧ (0 = 0 ∧ (vp_in j (150) ∧ kk st (am_up D 9 j.toNatClampNeg (x)) a)) from ⟨h.1, rfl, h.2⟩)⟩
theorem aa_m_9_n {st : List Value} {D : am_D} {a : am_A} {kk : List Value → am_D → am_A → Prop} : (am_alen sm_sh (.ref 9 :: st) D a kk) = (9 < a.1 ∧ kk (.int (Int32.ofNat (150)) :: st) D a) := propext ⟨fun h => (fun h : 9 < a.1 ∧ (0 = 0 ∧ kk (.int (Int32.ofNat (150)) :: st) D a) => ⟨h.1, h.2.2⟩) h, fun h => (show 9 < a.1 ∧ (0 = 0 ∧ kk (.int (Int32.ofNat (150)) :: st) D a) from ⟨h.1, rfl, h.2⟩)⟩
theorem aa_m_10_l {st : List Value} {D : am_D} {a : am_A} {kk : List Value → am_D → am_A → Prop} {j : Int32} : (am_ald sm_sh 0 (.int j :: .ref 10 :: st) D a kk) = (10 < a.1 ∧ (vp_in j (150) ∧ kk (.int (D 10 j.toNatClampNeg) :: st) D a)) := propext ⟨fun h => (fun h : 10 < a.1 ∧ (0 = 0 ∧ (vp_in j (150) ∧ kk (.int (D 10 j.toNatClampNeg) :: st) D a)) => ⟨h.1, h.2.2⟩) h, fun h => (show 10 < a.1 ∧ (0 = 0 ∧ (vp_in j (150) ∧ kk (.int (D 10 j.toNatClampNeg) :: st) D a)) from ⟨h.1, rfl, h.2⟩)⟩
theorem aa_m_10_s {st : List Value} {D : am_D} {a : am_A} {kk : List Value → am_D → am_A → Prop} {j : Int32} {x : Int32} : (am_ast sm_sh 0 (.int x :: .int j :: .ref 10 :: st) D a kk) = (10 < a.1 ∧ (vp_in j (150) ∧ kk st (am_up D 10 j.toNatClampNeg (x)) a)) := propext ⟨fun h => (fun h : 10 < a.1 ∧ (0 = 0 ∧ (vp_in j (150) ∧ kk st (am_up D 10 j.toNatClampNeg (x)) a)) => ⟨h.1, h.2.2⟩) h, fun h => (show 10 < a.1 ∧ (0 = 0 ∧ (vp_in j (150) ∧ kk st (am_up D 10 j.toNatClampNeg (x)) a)) from ⟨h.1, rfl, h.2⟩)⟩
theorem aa_m_10_n {st : List Value} {D : am_D} {a : am_A} {kk : List Value → am_D → am_A → Prop} : (am_alen sm_sh (.ref 10 :: st) D a kk) = (10 < a.1 ∧ kk (.int (Int32.ofNat (150)) :: st) D a) := propext ⟨fun h => (fun h : 10 < a.1 ∧ (0 = 0 ∧ kk (.int (Int32.ofNat (150)) :: st) D a) => ⟨h.1, h.2.2⟩) h, fun h => (show 10 < a.1 ∧ (0 = 0 ∧ kk (.int (Int32.ofNat (150)) :: st) D a) from ⟨h.1, rfl, h.2⟩)⟩
theorem aa_m_11_l {st : List Value} {D : am_D} {a : am_A} {kk : List Value → am_D → am_A → Prop} {j : Int32} : (am_ald sm_sh 1 (.int j :: .ref 11 :: st) D a kk) = (11 < a.1 ∧ (vp_in j (150) ∧ kk (.int (D 11 j.toNatClampNeg) :: st) D a)) := propext ⟨fun h => (fun h : 11 < a.1 ∧ (1 = 1 ∧ (vp_in j (150) ∧ kk (.int (D 11 j.toNatClampNeg) :: st) D a)) => ⟨h.1, h.2.2⟩) h, fun h => (show 11 < a.1 ∧ (1 = 1 ∧ (vp_in j (150) ∧ kk (.int (D 11 j.toNatClampNeg) :: st) D a)) from ⟨h.1, rfl, h.2⟩)⟩
theorem aa_m_11_s {st : List Value} {D : am_D} {a : am_A} {kk : List Value → am_D → am_A → Prop} {j : Int32} {x : Int32} : (am_ast sm_sh 1 (.int x :: .int j :: .ref 11 :: st) D a kk) = (11 < a.1 ∧ (vp_in j (150) ∧ kk st (am_up D 11 j.toNatClampNeg (vp_nar .boolean x)) a)) := propext ⟨fun h => (fun h : 11 < a.1 ∧ (1 = 1 ∧ (vp_in j (150) ∧ kk st (am_up D 11 j.toNatClampNeg (vp_nar .boolean x)) a)) => ⟨h.1, h.2.2⟩) h, fun h => (show 11 < a.1 ∧ (1 = 1 ∧ (vp_in j (150) ∧ kk st (am_up D 11 j.toNatClampNeg (vp_nar .boolean x)) a)) from ⟨h.1, rfl, h.2⟩)⟩
theorem aa_m_12_l {st : List Value} {D : am_D} {a : am_A} {kk : List Value → am_D → am_A → Prop} {j : Int32} : (am_ald sm_sh 0 (.int j :: .ref 12 :: st) D a kk) = (12 < a.1 ∧ (vp_in j (4350) ∧ kk (.int (D 12 j.toNatClampNeg) :: st) D a)) := propext ⟨fun h => (fun h : 12 < a.1 ∧ (0 = 0 ∧ (vp_in j (4350) ∧ kk (.int (D 12 j.toNatClampNeg) :: st) D a)) => ⟨h.1, h.2.2⟩) h, fun h => (show 12 < a.1 ∧ (0 = 0 ∧ (vp_in j (4350) ∧ kk (.int (D 12 j.toNatClampNeg) :: st) D a)) from ⟨h.1, rfl, h.2⟩)⟩
theorem aa_m_12_s {st : List Value} {D : am_D} {a : am_A} {kk : List Value → am_D → am_A → Prop} {j : Int32} {x : Int32} : (am_ast sm_sh 0 (.int x :: .int j :: .ref 12 :: st) D a kk) = (12 < a.1 ∧ (vp_in j (4350) ∧ kk st (am_up D 12 j.toNatClampNeg (x)) a)) := propext ⟨fun h => (fun h : 12 < a.1 ∧ (0 = 0 ∧ (vp_in j (4350) ∧ kk st (am_up D 12 j.toNatClampNeg (x)) a)) => ⟨h.1, h.2.2⟩) h, fun h => (show 12 < a.1 ∧ (0 = 0 ∧ (vp_in j (4350) ∧ kk st (am_up D 12 j.toNatClampNeg (x)) a)) from ⟨h.1, rfl, h.2⟩)⟩
theorem aa_m_12_n {st : List Value} {D : am_D} {a : am_A} {kk : List Value → am_D → am_A → Prop} : (am_alen sm_sh (.ref 12 :: st) D a kk) = (12 < a.1 ∧ kk (.int (Int32.ofNat (4350)) :: st) D a) := propext ⟨fun h => (fun h : 12 < a.1 ∧ (0 = 0 ∧ kk (.int (Int32.ofNat (4350)) :: st) D a) => ⟨h.1, h.2.2⟩) h, fun h => (show 12 < a.1 ∧ (0 = 0 ∧ kk (.int (Int32.ofNat (4350)) :: st) D a) from ⟨h.1, rfl, h.2⟩)⟩
theorem aa_m_13_l {st : List Value} {D : am_D} {a : am_A} {kk : List Value → am_D → am_A → Prop} {j : Int32} : (am_ald sm_sh 0 (.int j :: .ref 13 :: st) D a kk) = (13 < a.1 ∧ (vp_in j (4350) ∧ kk (.int (D 13 j.toNatClampNeg) :: st) D a)) := propext ⟨fun h => (fun h : 13 < a.1 ∧ (0 = 0 ∧ (vp_in j (4350) ∧ kk (.int (D 13 j.toNatClampNeg) :: st) D a)) => ⟨h.1, h.2.2⟩) h, fun h => (show 13 < a.1 ∧ (0 = 0 ∧ (vp_in j (4350) ∧ kk (.int (D 13 j.toNatClampNeg) :: st) D a)) from ⟨h.1, rfl, h.2⟩)⟩
theorem aa_m_13_s {st : List Value} {D : am_D} {a : am_A} {kk : List Value → am_D → am_A → Prop} {j : Int32} {x : Int32} : (am_ast sm_sh 0 (.int x :: .int j :: .ref 13 :: st) D a kk) = (13 < a.1 ∧ (vp_in j (4350) ∧ kk st (am_up D 13 j.toNatClampNeg (x)) a)) := propext ⟨fun h => (fun h : 13 < a.1 ∧ (0 = 0 ∧ (vp_in j (4350) ∧ kk st (am_up D 13 j.toNatClampNeg (x)) a)) => ⟨h.1, h.2.2⟩) h, fun h => (show 13 < a.1 ∧ (0 = 0 ∧ (vp_in j (4350) ∧ kk st (am_up D 13 j.toNatClampNeg (x)) a)) from ⟨h.1, rfl, h.2⟩)⟩
theorem aa_m_13_n {st : List Value} {D : am_D} {a : am_A} {kk : List Value → am_D → am_A → Prop} : (am_alen sm_sh (.ref 13 :: st) D a kk) = (13 < a.1 ∧ kk (.int (Int32.ofNat (4350)) :: st) D a) := propext ⟨fun h => (fun h : 13 < a.1 ∧ (0 = 0 ∧ kk (.int (Int32.ofNat (4350)) :: st) D a) => ⟨h.1, h.2.2⟩) h, fun h => (show 13 < a.1 ∧ (0 = 0 ∧ kk (.int (Int32.ofNat (4350)) :: st) D a) from ⟨h.1, rfl, h.2⟩)⟩
theorem aa_m_14_l {st : List Value} {D : am_D} {a : am_A} {kk : List Value → am_D → am_A → Prop} {j : Int32} : (am_ald sm_sh 0 (.int j :: .ref 14 :: st) D a kk) = (14 < a.1 ∧ (vp_in j (600) ∧ kk (.int (D 14 j.toNatClampNeg) :: st) D a)) := propext ⟨fun h => (fun h : 14 < a.1 ∧ (0 = 0 ∧ (vp_in j (600) ∧ kk (.int (D 14 j.toNatClampNeg) :: st) D a)) => ⟨h.1, h.2.2⟩) h, fun h => (show 14 < a.1 ∧ (0 = 0 ∧ (vp_in j (600) ∧ kk (.int (D 14 j.toNatClampNeg) :: st) D a)) from ⟨h.1, rfl, h.2⟩)⟩
theorem aa_m_14_s {st : List Value} {D : am_D} {a : am_A} {kk : List Value → am_D → am_A → Prop} {j : Int32} {x : Int32} : (am_ast sm_sh 0 (.int x :: .int j :: .ref 14 :: st) D a kk) = (14 < a.1 ∧ (vp_in j (600) ∧ kk st (am_up D 14 j.toNatClampNeg (x)) a)) := propext ⟨fun h => (fun h : 14 < a.1 ∧ (0 = 0 ∧ (vp_in j (600) ∧ kk st (am_up D 14 j.toNatClampNeg (x)) a)) => ⟨h.1, h.2.2⟩) h, fun h => (show 14 < a.1 ∧ (0 = 0 ∧ (vp_in j (600) ∧ kk st (am_up D 14 j.toNatClampNeg (x)) a)) from ⟨h.1, rfl, h.2⟩)⟩
theorem aa_m_14_n {st : List Value} {D : am_D} {a : am_A} {kk : List Value → am_D → am_A → Prop} : (am_alen sm_sh (.ref 14 :: st) D a kk) = (14 < a.1 ∧ kk (.int (Int32.ofNat (600)) :: st) D a) := propext ⟨fun h => (fun h : 14 < a.1 ∧ (0 = 0 ∧ kk (.int (Int32.ofNat (600)) :: st) D a) => ⟨h.1, h.2.2⟩) h, fun h => (show 14 < a.1 ∧ (0 = 0 ∧ kk (.int (Int32.ofNat (600)) :: st) D a) from ⟨h.1, rfl, h.2⟩)⟩
theorem aa_m_15_l {st : List Value} {D : am_D} {a : am_A} {kk : List Value → am_D → am_A → Prop} {j : Int32} : (am_ald sm_sh 0 (.int j :: .ref 15 :: st) D a kk) = (15 < a.1 ∧ (vp_in j (600) ∧ kk (.int (D 15 j.toNatClampNeg) :: st) D a)) := propext ⟨fun h => (fun h : 15 < a.1 ∧ (0 = 0 ∧ (vp_in j (600) ∧ kk (.int (D 15 j.toNatClampNeg) :: st) D a)) => ⟨h.1, h.2.2⟩) h, fun h => (show 15 < a.1 ∧ (0 = 0 ∧ (vp_in j (600) ∧ kk (.int (D 15 j.toNatClampNeg) :: st) D a)) from ⟨h.1, rfl, h.2⟩)⟩
theorem aa_m_15_s {st : List Value} {D : am_D} {a : am_A} {kk : List Value → am_D → am_A → Prop} {j : Int32} {x : Int32} : (am_ast sm_sh 0 (.int x :: .int j :: .ref 15 :: st) D a kk) = (15 < a.1 ∧ (vp_in j (600) ∧ kk st (am_up D 15 j.toNatClampNeg (x)) a)) := propext ⟨fun h => (fun h : 15 < a.1 ∧ (0 = 0 ∧ (vp_in j (600) ∧ kk st (am_up D 15 j.toNatClampNeg (x)) a)) => ⟨h.1, h.2.2⟩) h, fun h => (show 15 < a.1 ∧ (0 = 0 ∧ (vp_in j (600) ∧ kk st (am_up D 15 j.toNatClampNeg (x)) a)) from ⟨h.1, rfl, h.2⟩)⟩
theorem aa_m_15_n {st : List Value} {D : am_D} {a : am_A} {kk : List Value → am_D → am_A → Prop} : (am_alen sm_sh (.ref 15 :: st) D a kk) = (15 < a.1 ∧ kk (.int (Int32.ofNat (600)) :: st) D a) := propext ⟨fun h => (fun h : 15 < a.1 ∧ (0 = 0 ∧ kk (.int (Int32.ofNat (600)) :: st) D a) => ⟨h.1, h.2.2⟩) h, fun h => (show 15 < a.1 ∧ (0 = 0 ∧ kk (.int (Int32.ofNat (600)) :: st) D a) from ⟨h.1, rfl, h.2⟩)⟩
theorem aa_m_16_l {st : List Value} {D : am_D} {a : am_A} {kk : List Value → am_D → am_A → Prop} {j : Int32} : (am_ald sm_sh 0 (.int j :: .ref 16 :: st) D a kk) = (16 < a.1 ∧ (vp_in j (600) ∧ kk (.int (D 16 j.toNatClampNeg) :: st) D a)) := propext ⟨fun h => (fun h : 16 < a.1 ∧ (0 = 0 ∧ (vp_in j (600) ∧ kk (.int (D 16 j.toNatClampNeg) :: st) D a)) => ⟨h.1, h.2.2⟩) h, fun h => (show 16 < a.1 ∧ (0 = 0 ∧ (vp_in j (600) ∧ kk (.int (D 16 j.toNatClampNeg) :: st) D a)) from ⟨h.1, rfl, h.2⟩)⟩
theorem aa_m_16_s {st : List Value} {D : am_D} {a : am_A} {kk : List Value → am_D → am_A → Prop} {j : Int32} {x : Int32} : (am_ast sm_sh 0 (.int x :: .int j :: .ref 16 :: st) D a kk) = (16 < a.1 ∧ (vp_in j (600) ∧ kk st (am_up D 16 j.toNatClampNeg (x)) a)) := propext ⟨fun h => (fun h : 16 < a.1 ∧ (0 = 0 ∧ (vp_in j (600) ∧ kk st (am_up D 16 j.toNatClampNeg (x)) a)) => ⟨h.1, h.2.2⟩) h, fun h => (show 16 < a.1 ∧ (0 = 0 ∧ (vp_in j (600) ∧ kk st (am_up D 16 j.toNatClampNeg (x)) a)) from ⟨h.1, rfl, h.2⟩)⟩
theorem aa_m_16_n {st : List Value} {D : am_D} {a : am_A} {kk : List Value → am_D → am_A → Prop} : (am_alen sm_sh (.ref 16 :: st) D a kk) = (16 < a.1 ∧ kk (.int (Int32.ofNat (600)) :: st) D a) := propext ⟨fun h => (fun h : 16 < a.1 ∧ (0 = 0 ∧ kk (.int (Int32.ofNat (600)) :: st) D a) => ⟨h.1, h.2.2⟩) h, fun h => (show 16 < a.1 ∧ (0 = 0 ∧ kk (.int (Int32.ofNat (600)) :: st) D a) from ⟨h.1, rfl, h.2⟩)⟩
theorem aa_m_17_l {st : List Value} {D : am_D} {a : am_A} {kk : List Value → am_D → am_A → Prop} {j : Int32} : (am_ald sm_sh 1 (.int j :: .ref 17 :: st) D a kk) = (17 < a.1 ∧ (vp_in j (150) ∧ kk (.int (D 17 j.toNatClampNeg) :: st) D a)) := propext ⟨fun h => (fun h : 17 < a.1 ∧ (1 = 1 ∧ (vp_in j (150) ∧ kk (.int (D 17 j.toNatClampNeg) :: st) D a)) => ⟨h.1, h.2.2⟩) h, fun h => (show 17 < a.1 ∧ (1 = 1 ∧ (vp_in j (150) ∧ kk (.int (D 17 j.toNatClampNeg) :: st) D a)) from ⟨h.1, rfl, h.2⟩)⟩
theorem aa_m_17_s {st : List Value} {D : am_D} {a : am_A} {kk : List Value → am_D → am_A → Prop} {j : Int32} {x : Int32} : (am_ast sm_sh 1 (.int x :: .int j :: .ref 17 :: st) D a kk) = (17 < a.1 ∧ (vp_in j (150) ∧ kk st (am_up D 17 j.toNatClampNeg (vp_nar .boolean x)) a)) := propext ⟨fun h => (fun h : 17 < a.1 ∧ (1 = 1 ∧ (vp_in j (150) ∧ kk st (am_up D 17 j.toNatClampNeg (vp_nar .boolean x)) a)) => ⟨h.1, h.2.2⟩) h, fun h => (show 17 < a.1 ∧ (1 = 1 ∧ (vp_in j (150) ∧ kk st (am_up D 17 j.toNatClampNeg (vp_nar .boolean x)) a)) from ⟨h.1, rfl, h.2⟩)⟩
theorem ao_d_0 {L : Nat} : (am_ob (sd_sh L 0) 3 (fun _ => True)) = (True) := am_nr (by show (_ ∧ _) = _; simp)
theorem ao_d_1 {L : Nat} : (am_ob (sd_sh L 1) 2 (fun _ => True)) = (True) := am_nr (by show (_ ∧ _) = _; simp)
theorem ao_d_9 {L : Nat} : (am_ob (sd_sh L 9) 0 (fun _ => True)) = (True) := am_nr (by show (_ ∧ _) = _; simp)
theorem ao_d_rn {L i : Nat} : (am_ob (sd_sh L (sd_rn i)) 1 (fun _ => True)) = (True) := am_nr (by rw [sd_sh_rn]; show (_ ∧ _) = _; simp)
theorem ao_m_0  : (am_ob (sm_sh 0) 4 (fun _ => True)) = (True) := am_nr (by show (_ ∧ _) = _; simp)
theorem am_ne01 : ((0 : Int32) = 1) = False := by decide
theorem am_ne10 : ((1 : Int32) = 0) = False := by decide
theorem am_oi_m2 : Int32.ofInt (-2) = (-2) := by decide
theorem am_oi_m1 : Int32.ofInt (-1) = (-1) := by decide
theorem am_oi_0 : Int32.ofInt 0 = 0 := by decide
theorem am_oi_1 : Int32.ofInt 1 = 1 := by decide
theorem am_oi_2 : Int32.ofInt 2 = 2 := by decide
theorem am_oi_3 : Int32.ofInt 3 = 3 := by decide
theorem am_oi_4 : Int32.ofInt 4 = 4 := by decide
theorem am_oi_5 : Int32.ofInt 5 = 5 := by decide
theorem am_bi_m5 : (Int8.ofInt (-5)).toInt32 = (-5) := by decide
theorem am_bi_m4 : (Int8.ofInt (-4)).toInt32 = (-4) := by decide
theorem am_bi_m3 : (Int8.ofInt (-3)).toInt32 = (-3) := by decide
theorem am_bi_m2 : (Int8.ofInt (-2)).toInt32 = (-2) := by decide
theorem am_bi_8 : (Int8.ofInt 8).toInt32 = 8 := by decide
theorem am_bi_9 : (Int8.ofInt 9).toInt32 = 9 := by decide
theorem am_bi_10 : (Int8.ofInt 10).toInt32 = 10 := by decide
theorem am_bi_12 : (Int8.ofInt 12).toInt32 = 12 := by decide
theorem am_bi_16 : (Int8.ofInt 16).toInt32 = 16 := by decide
theorem am_bi_20 : (Int8.ofInt 20).toInt32 = 20 := by decide
theorem am_bi_29 : (Int8.ofInt 29).toInt32 = 29 := by decide
theorem am_bi_30 : (Int8.ofInt 30).toInt32 = 30 := by decide
theorem am_bi_31 : (Int8.ofInt 31).toInt32 = 31 := by decide
theorem am_bi_63 : (Int8.ofInt 63).toInt32 = 63 := by decide
theorem am_bi_80 : (Int8.ofInt 80).toInt32 = 80 := by decide
theorem am_bi_100 : (Int8.ofInt 100).toInt32 = 100 := by decide
theorem am_bi_116 : (Int8.ofInt 116).toInt32 = 116 := by decide
theorem am_si_150 : (Int16.ofInt 150).toInt32 = 150 := by decide
theorem am_si_255 : (Int16.ofInt 255).toInt32 = 255 := by decide
theorem am_si_512 : (Int16.ofInt 512).toInt32 = 512 := by decide
theorem am_si_600 : (Int16.ofInt 600).toInt32 = 600 := by decide
theorem am_si_4350 : (Int16.ofInt 4350).toInt32 = 4350 := by decide
