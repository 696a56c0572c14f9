/-! ===== rows by which a block is walked: each is by definition ===== -/
def am_lk : List (Nat × List (Instr × Nat)) → Nat → Option (List (Instr × Nat))
  | [], _ => none
  | b :: r, pc => if b.1 = pc then some b.2 else am_lk r pc
theorem am_lk_mem : ∀ {bs : List (Nat × List (Instr × Nat))} {pc : Nat} {is : List (Instr × Nat)}, am_lk bs pc = some is → (pc, is) ∈ bs
  | [], _, _, h => by cases h
  | b :: r, pc, is, h => by
    unfold am_lk at h
    split at h
    · rename_i hb
      cases h
      subst hb
      exact List.mem_cons_self
    · exact List.mem_cons_of_mem _ (am_lk_mem h)
theorem am_at {E : am_M} {bs : List (Nat × List (Instr × Nat))} {K : am_K} {Q : am_R} (hC : am_C E bs K Q) {pc : Nat} {is : List (Instr × Nat)} {L st : List Value} {D : am_D} {a : am_A} (hl : am_lk bs pc = some is) (h : am_w E K Q is pc L st D a) : K pc L st D a := hC (pc, is) (am_lk_mem hl) L st D a h
section AME
variable {E : am_M} {K : am_K} {Q : am_R} {pc : Nat} {L st r : List Value} {D : am_D} {a : am_A} {k : List Value → List Value → am_D → am_A → Prop}
variable {sh : Nat → am_Sh} {RC RS : Nat} {fl : Nat → Nat × Nat} {nw : Nat → Nat} {cal : am_M} {kk : List Value → am_D → am_A → Prop}
theorem am_e_iload_0  : am_s E K Q (.iload_n 0) pc L st D a k = (am_i (L.getD 0 am_u) fun x => k L (.int x :: st) D a) := rfl
theorem am_e_aload_0  : am_s E K Q (.aload_n 0) pc L st D a k = (am_r (L.getD 0 am_u) (k L (L.getD 0 am_u :: st) D a)) := rfl
theorem am_e_istore_0  : am_s E K Q (.istore_n 0) pc L st D a k = (am_p1 st fun x r => am_st L 0 (.int x) fun L => k L r D a) := rfl
theorem am_e_astore_0  : am_s E K Q (.astore_n 0) pc L st D a k = (am_p0 st fun v r => am_r v (am_st L 0 v fun L => k L r D a)) := rfl
theorem am_e_iload_1  : am_s E K Q (.iload_n 1) pc L st D a k = (am_i (L.getD 1 am_u) fun x => k L (.int x :: st) D a) := rfl
theorem am_e_aload_1  : am_s E K Q (.aload_n 1) pc L st D a k = (am_r (L.getD 1 am_u) (k L (L.getD 1 am_u :: st) D a)) := rfl
theorem am_e_istore_1  : am_s E K Q (.istore_n 1) pc L st D a k = (am_p1 st fun x r => am_st L 1 (.int x) fun L => k L r D a) := rfl
theorem am_e_astore_1  : am_s E K Q (.astore_n 1) pc L st D a k = (am_p0 st fun v r => am_r v (am_st L 1 v fun L => k L r D a)) := rfl
theorem am_e_iload_2  : am_s E K Q (.iload_n 2) pc L st D a k = (am_i (L.getD 2 am_u) fun x => k L (.int x :: st) D a) := rfl
theorem am_e_aload_2  : am_s E K Q (.aload_n 2) pc L st D a k = (am_r (L.getD 2 am_u) (k L (L.getD 2 am_u :: st) D a)) := rfl
theorem am_e_istore_2  : am_s E K Q (.istore_n 2) pc L st D a k = (am_p1 st fun x r => am_st L 2 (.int x) fun L => k L r D a) := rfl
theorem am_e_astore_2  : am_s E K Q (.astore_n 2) pc L st D a k = (am_p0 st fun v r => am_r v (am_st L 2 v fun L => k L r D a)) := rfl
theorem am_e_iload_3  : am_s E K Q (.iload_n 3) pc L st D a k = (am_i (L.getD 3 am_u) fun x => k L (.int x :: st) D a) := rfl
theorem am_e_aload_3  : am_s E K Q (.aload_n 3) pc L st D a k = (am_r (L.getD 3 am_u) (k L (L.getD 3 am_u :: st) D a)) := rfl
theorem am_e_istore_3  : am_s E K Q (.istore_n 3) pc L st D a k = (am_p1 st fun x r => am_st L 3 (.int x) fun L => k L r D a) := rfl
theorem am_e_astore_3  : am_s E K Q (.astore_n 3) pc L st D a k = (am_p0 st fun v r => am_r v (am_st L 3 v fun L => k L r D a)) := rfl
theorem am_E_getfield (x : Nat) : am_Em sh RC RS fl nw cal (.getfield x) st D a kk = (am_get sh (fl x) st D a kk) := rfl
theorem am_E_putfield (x : Nat) : am_Em sh RC RS fl nw cal (.putfield x) st D a kk = (am_put sh (fl x) st D a kk) := rfl
theorem am_E_iaload  : am_Em sh RC RS fl nw cal (.iaload) st D a kk = (am_ald sh 0 st D a kk) := rfl
theorem am_E_baload  : am_Em sh RC RS fl nw cal (.baload) st D a kk = (am_ald sh 1 st D a kk) := rfl
theorem am_E_aaload  : am_Em sh RC RS fl nw cal (.aaload) st D a kk = (am_p1 st fun _ r => am_p0 r fun o _ => am_n o fun n => am_sel (sh n) (am_ald sh 2 st D a kk) (am_ald sh 3 st D a kk)) := rfl
theorem am_E_iastore  : am_Em sh RC RS fl nw cal (.iastore) st D a kk = (am_ast sh 0 st D a kk) := rfl
theorem am_E_bastore  : am_Em sh RC RS fl nw cal (.bastore) st D a kk = (am_ast sh 1 st D a kk) := rfl
theorem am_E_aastore  : am_Em sh RC RS fl nw cal (.aastore) st D a kk = (am_astq sh st D a kk) := rfl
theorem am_E_arraylength  : am_Em sh RC RS fl nw cal (.arraylength) st D a kk = (am_alen sh st D a kk) := rfl
theorem am_E_new (x : Nat) : am_Em sh RC RS fl nw cal (.new x) st D a kk = (am_new sh RC RS (nw x) st D a kk) := rfl
theorem am_E_newarray_int  : am_Em sh RC RS fl nw cal (.newarray .int) st D a kk = (am_newa sh RC RS 0 st D a kk) := rfl
theorem am_E_newarray_boolean  : am_Em sh RC RS fl nw cal (.newarray .boolean) st D a kk = (am_newa sh RC RS 1 st D a kk) := rfl
theorem am_E_anewarray (x : Nat) : am_Em sh RC RS fl nw cal (.anewarray x) st D a kk = (am_newa sh RC RS 2 st D a kk) := rfl
theorem am_E_invokevirtual (x : Nat) : am_Em sh RC RS fl nw cal (.invokevirtual x) st D a kk = (cal (.invokevirtual x) st D a kk) := rfl
theorem am_E_invokespecial (x : Nat) : am_Em sh RC RS fl nw cal (.invokespecial x) st D a kk = (cal (.invokespecial x) st D a kk) := rfl
theorem am_E_invokestatic (x : Nat) : am_Em sh RC RS fl nw cal (.invokestatic x) st D a kk = (cal (.invokestatic x) st D a kk) := rfl
theorem am_E_multianewarray (x y : Nat) : am_Em sh RC RS fl nw cal (.multianewarray x y) st D a kk = (cal (.multianewarray x y) st D a kk) := rfl
theorem am_E_ldc_w (x : Nat) : am_Em sh RC RS fl nw cal (.ldc_w x) st D a kk = (cal (.ldc_w x) st D a kk) := rfl
theorem am_get_e {q : Nat × Nat} {n : Nat} : am_get sh q (.ref n :: r) D a kk = (n < a.1 ∧ am_ob (sh n) q.1 fun ks => q.2 < ks.length ∧ kk (am_va (ks.getD q.2 0) (D n q.2) :: r) D a) := rfl
theorem am_put_e {q : Nat × Nat} {n : Nat} {v : Value} : am_put sh q (v :: .ref n :: r) D a kk = (n < a.1 ∧ am_ob (sh n) q.1 fun ks => q.2 < ks.length ∧ am_pv (ks.getD q.2 0) v fun x => kk r (am_up D n q.2 x) a) := rfl
theorem am_ald_e {t n : Nat} {j : Int32} : am_ald sh t (.int j :: .ref n :: r) D a kk = (n < a.1 ∧ am_ar (sh n) t fun z => vp_in j z ∧ kk ((if t < 2 then .int (D n j.toNatClampNeg) else am_rf (D n j.toNatClampNeg)) :: r) D a) := rfl
theorem am_ast_e {t n : Nat} {j x : Int32} : am_ast sh t (.int x :: .int j :: .ref n :: r) D a kk = (n < a.1 ∧ am_ar (sh n) t fun z => vp_in j z ∧ kk r (am_up D n j.toNatClampNeg (if t = 0 then x else vp_nar .boolean x)) a) := rfl
theorem am_astq_e {n y : Nat} {j : Int32} : am_astq sh (.ref y :: .int j :: .ref n :: r) D a kk = (0 < y ∧ y < 2 ^ 31 ∧ n < a.1 ∧ am_ob (sh y) 1 fun _ => am_ar (sh n) 2 fun z => vp_in j z ∧ kk r (am_up D n j.toNatClampNeg (Int32.ofNat y)) a) := rfl
theorem am_alen_e {n : Nat} : am_alen sh (.ref n :: r) D a kk = (n < a.1 ∧ am_ar (sh n) 0 fun z => kk (.int (Int32.ofNat z) :: r) D a) := rfl
theorem am_new_e {ci : Nat} : am_new sh RC RS ci st D a kk = (am_ob (sh a.1) ci fun ks => (ks.all fun k => decide (k ≤ 2)) = true ∧ a.2.1 + 1 ≤ RC ∧ a.2.2 + ks.length ≤ RS ∧ kk (.ref a.1 :: st) (am_z D a.1) (a.1 + 1, a.2.1 + 1, a.2.2 + ks.length)) := rfl
theorem am_newa_e {t : Nat} {n : Int32} : am_newa sh RC RS t (.int n :: r) D a kk = (am_ar (sh a.1) t fun z => z = n.toNatClampNeg ∧ ¬ n < 0 ∧ z ≤ 10000 ∧ a.2.1 + 1 ≤ RC ∧ a.2.2 + z ≤ RS ∧ kk (.ref a.1 :: r) (am_z D a.1) (a.1 + 1, a.2.1 + 1, a.2.2 + z)) := rfl
theorem am_ob_l {c0 ci : Nat} {ks : List Nat} {c : List Nat → Prop} : am_ob (.inl (c0, ks)) ci c = (c0 = ci ∧ c ks) := rfl
theorem am_ar_r {c0 t z : Nat} {c : Nat → Prop} : am_ar (.inr (c0, z)) t c = (c0 = t ∧ c z) := rfl
theorem am_sel_r {t z : Nat} {A B : Prop} : am_sel (.inr (t, z)) A B = (if t = 2 then A else B) := rfl
theorem am_n_r {n : Nat} {c : Nat → Prop} : am_n (.ref n) c = (c n) := rfl
theorem am_va_0 {x : Int32} : am_va 0 x = (.int x) := rfl
theorem am_va_1 {x : Int32} : am_va 1 x = (.int x) := rfl
theorem am_va_2 {x : Int32} : am_va 2 x = (am_rf x) := rfl
theorem am_va_3 {x : Int32} {c : Nat} : am_va (c + 3) x = (.ref c) := rfl
theorem am_pv_0 {x : Int32} {c : Int32 → Prop} : am_pv 0 (.int x) c = (c x) := rfl
theorem am_pv_1 {x : Int32} {c : Int32 → Prop} : am_pv 1 (.int x) c = ((x = 0 ∨ x = 1) ∧ c x) := rfl
theorem am_pv_2 {n : Nat} {c : Int32 → Prop} : am_pv 2 (.ref n) c = (0 < n ∧ n < 2 ^ 31 ∧ c (Int32.ofNat n)) := rfl
theorem am_callV_e {ci n mc ms : Nat} {P : am_P} : am_callV sh RC RS ci n mc ms P st D a kk = (am_rcv sh ci (st.take n).reverse ∧ am_call RC RS n mc ms P st D a kk) := rfl
theorem am_call_e {n mc ms : Nat} {P : am_P} : am_call RC RS n mc ms P st D a kk = (n ≤ st.length ∧ st.length ≤ n + 8 ∧ a.2.1 + mc ≤ RC ∧ a.2.2 + ms ≤ RS ∧ P (st.take n).reverse D a.1 (fun v D' N' => kk (v.toList ++ st.drop n) D' (N', a.2.1 + mc, a.2.2 + ms))) := rfl
theorem am_rcv_e {ci n : Nat} : am_rcv sh ci (.ref n :: r) = (am_ob (sh n) ci fun _ => True) := rfl
theorem am_rcv0_e {n : Nat} : am_rcv0 (.ref n :: r) = (True) := rfl
theorem am_st_e {j : Nat} {v : Value} {c : List Value → Prop} : am_st L j v c = (j < L.length ∧ c (L.set j v)) := rfl
theorem am_b_e {off : Int} {T B : Prop} {A : Nat → Prop} : am_b pc off T A B = (0 ≤ (pc : Int) + off ∧ (T → A ((pc : Int) + off).toNat) ∧ (¬ T → B)) := rfl
theorem am_j_e {off : Int} {A : Nat → Prop} : am_j pc off A = (0 ≤ (pc : Int) + off ∧ A ((pc : Int) + off).toNat) := rfl
theorem am_cmp_eq {x y : Int32} : am_cmp .eq x y = (x = y) := rfl
theorem am_cmp_ne {x y : Int32} : am_cmp .ne x y = (¬ x = y) := rfl
theorem am_cmp_lt {x y : Int32} : am_cmp .lt x y = (x < y) := rfl
theorem am_cmp_ge {x y : Int32} : am_cmp .ge x y = (y ≤ x) := rfl
theorem am_cmp_gt {x y : Int32} : am_cmp .gt x y = (y < x) := rfl
theorem am_cmp_le {x y : Int32} : am_cmp .le x y = (x ≤ y) := rfl
theorem am_Qr_e {ret : Option FieldType} {mc ms N : Nat} {c : Option Value → am_D → Nat → Prop} {v : Option Value} : am_Qr ret mc ms N c v D a = (am_ro ret v ∧ a.2.1 ≤ mc ∧ a.2.2 ≤ ms ∧ c v D a.1 ∧ N ≤ a.1) := rfl
theorem am_ro_n {v : Option Value} : am_ro none v = (v = none) := rfl
theorem am_ro_b {v : Option Value} : am_ro (some .boolean) v = (v = some (.int 0) ∨ v = some (.int 1)) := rfl
theorem am_ro_i {x : Int32} : am_ro (some .int) (some (.int x)) = True := eq_true ⟨x, rfl⟩
theorem am_ro_o {C : String} {n : Nat} : am_ro (some (.object C)) (some (.ref n)) = True := eq_true (Or.inl ⟨n, rfl⟩)
end AME
theorem sd_sh_0 {L : Nat} : sd_sh L 0 = (.inl (3, [0, 4, 12, 15, 0, 16, 0, 21, 22, 23])) := rfl
theorem sd_sh_1 {L : Nat} : sd_sh L 1 = (.inl (2, [0, 0, 5, 6, 7, 8, 9, 0, 10, 11])) := rfl
theorem sd_sh_2 {L : Nat} : sd_sh L 2 = (.inr (0, 80)) := rfl
theorem sd_sh_3 {L : Nat} : sd_sh L 3 = (.inr (0, 80)) := rfl
theorem sd_sh_4 {L : Nat} : sd_sh L 4 = (.inr (0, 80)) := rfl
theorem sd_sh_5 {L : Nat} : sd_sh L 5 = (.inr (0, 80)) := rfl
theorem sd_sh_6 {L : Nat} : sd_sh L 6 = (.inr (0, 80)) := rfl
theorem sd_sh_7 {L : Nat} : sd_sh L 7 = (.inr (1, 8)) := rfl
theorem sd_sh_8 {L : Nat} : sd_sh L 8 = (.inr (0, 9)) := rfl
theorem sd_sh_9 {L : Nat} : sd_sh L 9 = (.inl (0, [13, 14, 0])) := rfl
theorem sd_sh_10 {L : Nat} : sd_sh L 10 = (.inr (0, 512)) := rfl
theorem sd_sh_11 {L : Nat} : sd_sh L 11 = (.inr (0, 512)) := rfl
theorem sd_sh_12 {L : Nat} : sd_sh L 12 = (.inr (2, 150)) := rfl
theorem sd_sh_13 {L : Nat} : sd_sh L 13 = (.inr (3, 4)) := rfl
theorem sd_sh_14 {L : Nat} : sd_sh L 14 = (.inr (0, L)) := rfl
theorem sd_sh_15 {L : Nat} : sd_sh L 15 = (.inr (0, L)) := rfl
theorem sd_sh_16 {L : Nat} : sd_sh L 16 = (.inr (0, L)) := rfl
theorem sd_sh_17 {L : Nat} : sd_sh L 17 = (.inr (0, L)) := rfl
theorem sd_sh_18 {L : Nat} : sd_sh L 18 = (.inr (2, 150)) := rfl
theorem sd_sh_19 {L : Nat} : sd_sh L 19 = (.inr (0, 150)) := rfl
theorem sd_sh_20 {L : Nat} : sd_sh L 20 = (.inr (0, 80)) := rfl
theorem sm_sh_0  : sm_sh 0 = (.inl (4, [0, 0, 0, 4, 5, 6, 7, 8, 0, 9, 10, 11, 12, 13, 14, 15, 16, 0, 17, 18, 19, 0, 20])) := rfl
theorem sm_sh_1  : sm_sh 1 = (.inr (0, 9)) := rfl
theorem sm_sh_2  : sm_sh 2 = (.inr (0, 8)) := rfl
theorem sm_sh_3  : sm_sh 3 = (.inr (1, 8)) := rfl
theorem sm_sh_4  : sm_sh 4 = (.inr (0, 80)) := rfl
theorem sm_sh_5  : sm_sh 5 = (.inr (0, 116)) := rfl
theorem sm_sh_6  : sm_sh 6 = (.inr (0, 150)) := rfl
theorem sm_sh_7  : sm_sh 7 = (.inr (0, 150)) := rfl
theorem sm_sh_8  : sm_sh 8 = (.inr (0, 150)) := rfl
theorem sm_sh_9  : sm_sh 9 = (.inr (0, 150)) := rfl
theorem sm_sh_10  : sm_sh 10 = (.inr (0, 150)) := rfl
theorem sm_sh_11  : sm_sh 11 = (.inr (1, 150)) := rfl
theorem sm_sh_12  : sm_sh 12 = (.inr (0, 4350)) := rfl
theorem sm_sh_13  : sm_sh 13 = (.inr (0, 4350)) := rfl
theorem sm_sh_14  : sm_sh 14 = (.inr (0, 600)) := rfl
theorem sm_sh_15  : sm_sh 15 = (.inr (0, 600)) := rfl
theorem sm_sh_16  : sm_sh 16 = (.inr (0, 600)) := rfl
theorem sm_sh_17  : sm_sh 17 = (.inr (1, 150)) := rfl
/-- the name of ride i, and of its places -/
def sd_rn (i : Nat) : Nat := 2 * i + 21
def sd_pn (i : Nat) : Nat := 2 * i + 22
theorem sd_sh_rn {L i : Nat} : sd_sh L (sd_rn i) = .inl (1, [0, 2, 0, 0, 0, 0, 0, 1]) := by
  show (if (2 * i) % 2 = 0 then _ else _) = _
  rw [if_pos (by omega)]
theorem sd_sh_pn {L i : Nat} : sd_sh L (sd_pn i) = .inr (0, L) := by
  show (if (2 * i + 1) % 2 = 0 then _ else _) = _
  rw [if_neg (by omega)]
theorem am_ne01 : ((0 : Int32) = 1) = False := by decide
theorem am_ne10 : ((1 : Int32) = 0) = False := by decide
theorem am_bi_m5 : (Int8.ofInt (-5)).toInt32 = (-5) := by decide
theorem am_bi_m4 : (Int8.ofInt (-4)).toInt32 = (-4) := by decide
theorem am_bi_m3 : (Int8.ofInt (-3)).toInt32 = (-3) := by decide
theorem am_bi_m2 : (Int8.ofInt (-2)).toInt32 = (-2) := by decide
theorem am_bi_8 : (Int8.ofInt 8).toInt32 = 8 := by decide
theorem am_bi_9 : (Int8.ofInt 9).toInt32 = 9 := by decide
theorem am_bi_10 : (Int8.ofInt 10).toInt32 = 10 := by decide
theorem am_bi_12 : (Int8.ofInt 12).toInt32 = 12 := by decide
theorem am_bi_16 : (Int8.ofInt 16).toInt32 = 16 := by decide
theorem am_bi_20 : (Int8.ofInt 20).toInt32 = 20 := by decide
theorem am_bi_29 : (Int8.ofInt 29).toInt32 = 29 := by decide
theorem am_bi_30 : (Int8.ofInt 30).toInt32 = 30 := by decide
theorem am_bi_31 : (Int8.ofInt 31).toInt32 = 31 := by decide
theorem am_bi_63 : (Int8.ofInt 63).toInt32 = 63 := by decide
theorem am_bi_80 : (Int8.ofInt 80).toInt32 = 80 := by decide
theorem am_bi_100 : (Int8.ofInt 100).toInt32 = 100 := by decide
theorem am_bi_116 : (Int8.ofInt 116).toInt32 = 116 := by decide
theorem am_si_150 : (Int16.ofInt 150).toInt32 = 150 := by decide
theorem am_si_255 : (Int16.ofInt 255).toInt32 = 255 := by decide
theorem am_si_512 : (Int16.ofInt 512).toInt32 = 512 := by decide
theorem am_si_600 : (Int16.ofInt 600).toInt32 = 600 := by decide
theorem am_si_4350 : (Int16.ofInt 4350).toInt32 = 4350 := by decide
