/-! ===== what the tables say at the law's entry ===== -/
theorem st_A {s : State} {cA comp : ClassId} {kA : Class} {t : FieldType} (f2 : s.vm.classes[cA]? = some kA) (f3 : kA.kind = .array comp t) : ArrOfT s cA t := fun N z => ⟨(fun k h => by cases h), kA, f2, comp, f3⟩
set_option maxRecDepth 20000 in
theorem st_K {s : State} {args : Array Value} (hts : ∀ w ∈ lw_tbl, w.before args s = true) : ∃ (G : va_G) (dT : Nat → ClassId), va_K G vwCl (am_ty dT) s := by
  obtain ⟨c0, i0, k0⟩ := u_known (C := RX0) (T := TX0) (N := 3) (n := 3) hts inX0 (hts _ (by decide +kernel))
  obtain ⟨c1, i1, k1⟩ := u_known (C := RX1) (T := TX1) (N := 8) (n := 8) hts inX1 (hts _ (by decide +kernel))
  obtain ⟨c2, i2, k2⟩ := u_known (C := RX2) (T := TX2) (N := 10) (n := 10) hts inX2 (hts _ (by decide +kernel))
  obtain ⟨c3, i3, k3⟩ := u_known (C := RX3) (T := TX3) (N := 10) (n := 10) hts inX3 (hts _ (by decide +kernel))
  obtain ⟨c4, i4, k4⟩ := u_known (C := RX4) (T := TX4) (N := 23) (n := 23) hts inX4 (hts _ (by decide +kernel))
  obtain ⟨d0, e0, p0, q0, r0, s0⟩ := Cond.arrayClass_spec (hts (.arrayClass .int) (by decide +kernel))
  obtain ⟨d1, e1, p1, q1, r1, s1⟩ := Cond.arrayClass_spec (hts (.arrayClass .boolean) (by decide +kernel))
  obtain ⟨p2, d2, e2, q2, -, r2, s2, t2⟩ := Cond.arrayOver_spec (hts (.arrayOver (.object "SeatDesk$Ride")) (by decide +kernel))
  obtain ⟨p3, d3, e3, q3, r3, s3, t3⟩ := Cond.arrayOver_specA (hts (.arrayOver (.array .int)) (by decide +kernel))
  refine ⟨(fun c => match c with | 0 => c0 | 1 => c1 | 2 => c2 | 3 => c3 | _ => c4, fun c => match c with | 0 => i0 | 1 => i1 | 2 => i2 | 3 => i3 | _ => i4), fun k => match k with | 0 => d0 | 1 => d1 | 2 => d2 | _ => d3, ?_, ?_⟩
  · intro c q hq
    match c, hq with
    | 0, hq => cases hq; exact k0
    | 1, hq => cases hq; exact k1
    | 2, hq => cases hq; exact k2
    | 3, hq => cases hq; exact k3
    | 4, hq => cases hq; exact k4
    | n + 5, hq => cases hq
  · intro k q hq
    match k, hq with
    | 0, hq => cases hq; exact ⟨st_A r0 s0, q0⟩
    | 1, hq => cases hq; exact ⟨st_A r1 s1, q1⟩
    | 2, hq => cases hq; exact ⟨st_A r2 s2, e2, p2, r2, s2, q2, t2⟩
    | 3, hq => cases hq; exact ⟨st_A r3 s3, t3⟩
    | n + 4, hq => cases hq
set_option maxRecDepth 20000 in
theorem st_Gl {s : State} {args : Array Value} (hts : ∀ w ∈ lw_tbl, w.before args s = true) : am_Gl s := ⟨hts (.arrayOver (.object "SeatDesk$Ride")) (by decide +kernel), hts (.arrayOver (.array .int)) (by decide +kernel), va_Nw.of rfl (hts (.methodLinkNest "SeatDesk$Ride" 44 ⟨"SeatDesk", "way", "(II)I"⟩ "SeatDesk") (by decide +kernel)), va_Nw.of rfl (hts (.methodLinkNest "SeatDesk" 24 ⟨"SeatDesk$Blocks", "<init>", "()V"⟩ "SeatDesk") (by decide +kernel))⟩
set_option maxRecDepth 20000 in
theorem st_T {s : State} {args : Array Value} (hts : ∀ w ∈ lw_tbl, w.before args s = true) (hgv : (Jvm.Cond.and given_1 narrow_1).before args s = true) : rd_T (fun q => s.heap.size ≤ q) s := by
  have hs := flat_of_before _ hgv
  have hA : ∀ a : Nat, a < s.heap.size → ¬ (fun q => s.heap.size ≤ q) a := fun a h => Nat.not_le.mpr h
  refine ⟨⟨va_Nw.of rfl (hts _ (by decide +kernel)), va_Nw.of rfl (hts _ (by decide +kernel)), va_Nw.of rfl (hts _ (by decide +kernel)), va_Nw.of rfl (hts _ (by decide +kernel))⟩, ?_, ?_, vx_Zqof (hts _ (by decide +kernel)) (hts _ (by decide +kernel)) (hs (.isRef (.static Bundle.tN "UNASSIGNED_STACK" Bundle.steD)) (by decide +kernel)) hA, vx_Zqof (hts _ (by decide +kernel)) (hts _ (by decide +kernel)) (hs (.isRef (.static Bundle.tN "SUPPRESSED_SENTINEL" Bundle.listD)) (by decide +kernel)) hA⟩
  · obtain ⟨a, -, -, -, h, -⟩ := Cond.exactly_spec (hs (.exactly (.string "SeatDesk" 231) "java/lang/String") (by decide +kernel))
    exact ⟨a, "no such ride", vk_R.of (hts (.stringRef "SeatDesk" 231 "no such ride") (by decide +kernel)) h⟩
  · obtain ⟨a, -, -, -, h, -⟩ := Cond.exactly_spec (hs (.exactly (.string "SeatDesk" 244) "java/lang/String") (by decide +kernel))
    exact ⟨a, "no such what", vk_R.of (hts (.stringRef "SeatDesk" 244 "no such what") (by decide +kernel)) h⟩
