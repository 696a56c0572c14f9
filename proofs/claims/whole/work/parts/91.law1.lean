/-! ===== the law: the start, and the calls ===== -/
theorem rel_start {L : Nat} {D M : am_D} (hL1 : 1 ≤ L) (hL : L ≤ 29) (m1 : M 0 1 = nI (L + 1)) (m2 : M 0 2 = 0) (m8 : M 0 8 = 0) (m17 : M 0 17 = 0) (m21 : M 0 21 = 0) (mz : ∀ n j, 1 ≤ n → n < 18 → M n j = 0) (d0 : D 0 0 = nI L) (d4 : D 0 4 = 0) (d6 : D 0 6 = 0) (e0 : D 1 0 = nI L) (e1 : D 1 1 = 0) (e7 : D 1 7 = 0) (b2 : D 9 2 = 0) (d13 : ∀ g, g < 4 → D 13 g = nI (14 + g)) (dz : ∀ n j, 2 ≤ n → n ≤ 20 → n ≠ 9 → n ≠ 13 → D n j = 0) : Rel L 0 D M none := by
  have z0 : (0 : Int32).toNatClampNeg = 0 := by decide
  have vL0 : vL M = L := by
    unfold vL
    rw [m1, nI_clamp (by omega)]
    omega
  have vC0 : vC M = 0 := by
    unfold vC
    rw [m2]
    exact z0
  have vR0 : vR M = 0 := by
    unfold vR
    rw [m8]
    exact z0
  have vB0 : vB M = 0 := by
    unfold vB
    rw [m17]
    exact z0
  have vF0 : ∀ c, vF M c = 0 := fun c => by
    unfold vF
    rw [mz 1 c (by omega) (by omega)]
    exact z0
  have dR0 : dR D = 0 := by
    unfold dR
    rw [d4]
    exact z0
  have dC0 : dC D = 0 := by
    unfold dC
    rw [e1]
    exact z0
  have dK0 : dK D = 0 := by
    unfold dK
    rw [e7]
    exact z0
  have bB0 : bB D = 0 := by
    unfold bB
    rw [b2]
    exact z0
  refine ⟨⟨by rw [vL0]; exact m1, by omega, by omega, by rw [vC0, nI_0]; exact m2, by omega, by rw [vR0, nI_0]; exact m8, by omega, by rw [vB0, nI_0]; exact m17, by omega, fun c hc => by rw [vF0, nI_0]; exact mz 1 c (by omega) (by omega), vF0 0, fun c hc => by omega, by rw [vF0]; omega⟩, fun r hr => by omega, ⟨hL1, hL, d0, by rw [dR0, nI_0]; exact d4, by omega, by omega, fun i hi => by omega, fun i _ => dz 12 i (by omega) (by omega) (by omega) (by omega), d13⟩, ⟨by rw [dC0, nI_0]; exact e1, by omega, by rw [dK0, nI_0]; exact e7, by omega, e0, hL⟩, ⟨by rw [bB0, nI_0]; exact b2, by omega⟩, ⟨vL0, by omega, fun c hc => by rw [dz 8 c (by omega) (by omega) (by omega) (by omega), mz 1 c (by omega) (by omega)], fun c hc => by omega, fun c _ => mz 3 c (by omega) (by omega), by rw [dC0, vF0], fun q hq => by omega, fun q hq => by omega, fun q => by rw [dz 4 q (by omega) (by omega) (by omega) (by omega), mz 4 q (by omega) (by omega)], fun c hc => by omega⟩, fun q hq s hs => ?_, fun q hq ht s hs => ?_, ⟨by omega, fun i hi => by omega⟩, fun i hi => by omega, fun g hg s hs => by rw [dz (14 + g) s (by omega) (by omega) (by omega) (by omega), mz 5 _ (by omega) (by omega)], ⟨by omega, fun P => by rw [bB0, vB0]; rfl, fun b hb => by omega⟩, by rw [d6, m21], ⟨fun r hr => by omega, fun r hr => by omega, fun r hr => by omega, fun r r' s q hr => by omega, fun r hr => by omega, fun r hr => by omega, fun r hr => by omega⟩⟩
  · rw [dz 5 q (by omega) (by omega) (by omega) (by omega)]
    exact ⟨fun z => absurd z bt_0, fun ⟨r, hr, _⟩ => by omega⟩
  · rw [dz 6 q (by omega) (by omega) (by omega) (by omega)]
    exact ⟨fun z => absurd z bt_0, fun ⟨b, hb, _⟩ => by omega⟩
/-! what a call asks of the desk, and what of the reference -/
theorem Rel.N {L A : Nat} {D M : am_D} (_ : Rel L A D M none) : 20 < 21 + 2 * A := by omega
theorem Rel.GS {L A : Nat} {D M : am_D} (h : Rel L A D M none) : mGS M := fun r hr s hs z => by
  rcases h.I.w r hr s hs with e | ⟨-, -, q, h1, h2⟩
  · rw [e] at z
    exact absurd (by decide) z
  · exact ⟨q, h1, h2⟩
def lwk (L : Nat) (k : Option Value → am_D → Nat → Prop) (r : Int32 × am_D) : Prop := ∀ A' D', Rel L A' D' r.2 none → k (some (.int r.1)) D' (21 + 2 * A')
theorem lc_coach {L A : Nat} {D M : am_D} {k : Option Value → am_D → Nat → Prop} (h : Rel L A D M none) (t n : Int32) (hk : lwk L k (mCoach M t n)) : sp_X3_coach L [.ref 0, .int t, .int n] D (21 + 2 * A) k := ⟨t, n, rfl, h.N, h.sg, by rw [(coach_eq h).1]; exact hk A _ (coach_eq h).2⟩
theorem lc_flags {L A : Nat} {D M : am_D} {k : Option Value → am_D → Nat → Prop} (h : Rel L A D M none) (c s m : Int32) (hk : lwk L k (mFlags M c s m)) : sp_X3_flags L [.ref 0, .int c, .int s, .int m] D (21 + 2 * A) k := ⟨c, s, m, rfl, h.N, h.kg, by rw [(flags_eq h).1]; exact hk A _ (flags_eq h).2⟩
theorem lc_quota {L A : Nat} {D M : am_D} {k : Option Value → am_D → Nat → Prop} (h : Rel L A D M none) (s g n : Int32) (hk : lwk L k (mQuota M s g n)) : sp_X3_quota L [.ref 0, .int s, .int g, .int n] D (21 + 2 * A) k := ⟨A, s, g, n, rfl, rfl, h.O, by rw [(quota_eq h).1]; exact hk A _ (quota_eq h).2⟩
theorem lc_book {L A : Nat} {D M : am_D} {k : Option Value → am_D → Nat → Prop} (h : Rel L A D M none) (a b t : Int32) (hk : lwk L k (mBook M a b t)) : sp_X3_book L [.ref 0, .int a, .int b, .int t] D (21 + 2 * A) k := ⟨A, a, b, t, rfl, rfl, h.O, h.ok.2.1, h.ok.2.2.1, h.sg, book_k (k := fun v D' A' => k (some (.int v)) D' (21 + 2 * A')) h hk⟩
theorem lc_agencyBook {L A : Nat} {D M : am_D} {k : Option Value → am_D → Nat → Prop} (h : Rel L A D M none) (g a b t : Int32) (hk : lwk L k (mAgBook M g a b t)) : sp_X3_agencyBook L [.ref 0, .int g, .int a, .int b, .int t] D (21 + 2 * A) k := ⟨A, g, a, b, t, rfl, rfl, h.O, h.ok.2.1, h.ok.2.2.1, h.sg, agBook_k (k := fun v D' A' => k (some (.int v)) D' (21 + 2 * A')) h hk⟩
theorem lc_bookSeat {L A : Nat} {D M : am_D} {k : Option Value → am_D → Nat → Prop} (h : Rel L A D M none) (a b c s : Int32) (hk : lwk L k (mBkSeat M a b c s)) : sp_X3_bookSeat L [.ref 0, .int a, .int b, .int c, .int s] D (21 + 2 * A) k := ⟨A, a, b, c, s, rfl, rfl, h.O, h.kg, bkSeat_k (k := fun v D' A' => k (some (.int v)) D' (21 + 2 * A')) h hk⟩
theorem lc_bookGroup {L A : Nat} {D M : am_D} {k : Option Value → am_D → Nat → Prop} (h : Rel L A D M none) (a b t n : Int32) (hk : lwk L k (mGroup M a b t n)) : sp_X3_bookGroup L [.ref 0, .int a, .int b, .int t, .int n] D (21 + 2 * A) k := ⟨A, a, b, t, n, rfl, rfl, h.O, h.kg, group_k (k := fun v D' A' => k (some (.int v)) D' (21 + 2 * A')) h hk⟩
theorem lc_offerChanges {L A : Nat} {D M : am_D} {k : Option Value → am_D → Nat → Prop} (h : Rel L A D M none) (a b t : Int32) (hk : lwk L k (mOffer M a b t, mT M)) : sp_X3_offerChanges L [.ref 0, .int a, .int b, .int t] D (21 + 2 * A) k := ⟨a, b, t, rfl, h.N, h.O.2.2.1, h.sg, by rw [offer_eq h]; exact hk A D h.mT⟩
theorem lc_bookChanges {L A : Nat} {D M : am_D} {k : Option Value → am_D → Nat → Prop} (h : Rel L A D M none) (a b t : Int32) (hk : lwk L k (mBkCh M a b t)) : sp_X3_bookChanges L [.ref 0, .int a, .int b, .int t] D (21 + 2 * A) k := ⟨A, a, b, t, rfl, rfl, h.O, h.sg, changes_k (k := fun v D' A' => k (some (.int v)) D' (21 + 2 * A')) h hk⟩
theorem lc_wish {L A : Nat} {D M : am_D} {k : Option Value → am_D → Nat → Prop} (h : Rel L A D M none) (r m : Int32) (hk : lwk L k (mWish M r m)) : sp_X3_wish L [.ref 0, .int r, .int m] D (21 + 2 * A) k := ⟨A, r, m, rfl, rfl, h.O, h.ok.2.1, h.ok.2.2.1, h.sg, wish_k (k := fun v D' => k (some (.int v)) D' (21 + 2 * A)) h (fun D' => hk A D')⟩
theorem lc_print {L A : Nat} {D M : am_D} {k : Option Value → am_D → Nat → Prop} (h : Rel L A D M none) (r : Int32) (hk : lwk L k (mPrint M r)) : sp_X3_print L [.ref 0, .int r] D (21 + 2 * A) k := ⟨A, r, rfl, rfl, h.O, by rw [(print_eq h).1]; exact hk A _ (print_eq h).2⟩
theorem lc_cancel {L A : Nat} {D M : am_D} {k : Option Value → am_D → Nat → Prop} (h : Rel L A D M none) (r : Int32) (hk : lwk L k (mCancel M r)) : sp_X3_cancel L [.ref 0, .int r] D (21 + 2 * A) k := ⟨A, r, rfl, rfl, h.O, h.ok.2.1, h.ok.2.2.1, by rw [(cancel_eq h).1]; exact hk A _ (cancel_eq h).2⟩
theorem lc_shorten {L A : Nat} {D M : am_D} {k : Option Value → am_D → Nat → Prop} (h : Rel L A D M none) (r a b : Int32) (hk : lwk L k (mShort M r a b)) : sp_X3_shorten L [.ref 0, .int r, .int a, .int b] D (21 + 2 * A) k := ⟨A, r, a, b, rfl, rfl, h.O, h.ok.2.1, h.ok.2.2.1, by rw [(short_eq h).1]; exact hk A _ (short_eq h).2⟩
theorem lc_seatOf {L A : Nat} {D M : am_D} {k : Option Value → am_D → Nat → Prop} (h : Rel L A D M none) (r s : Int32) (hk : lwk L k (mSeatOf M r s, mT M)) : sp_X3_seatOf L [.ref 0, .int r, .int s] D (21 + 2 * A) k := ⟨A, r, s, rfl, rfl, h.O, h.ok.2.1, h.ok.2.2.1, by rw [seatOf_eq h]; exact hk A D h.mT⟩
theorem lc_block {L A : Nat} {D M : am_D} {k : Option Value → am_D → Nat → Prop} (h : Rel L A D M none) (hB : vB M < 512) (c s a b : Int32) (hk : lwk L k (mBlock M c s a b)) : sp_X3_block L [.ref 0, .int c, .int s, .int a, .int b] D (21 + 2 * A) k := ⟨A, c, s, a, b, rfl, rfl, h.O, h.ok.2.1, h.ok.2.2.1, h.kg, h.bg, block_k (k := fun v D' => k (some (.int v)) D' (21 + 2 * A)) h (by rw [h.B.1]; exact hB) (fun D' => hk A D')⟩
theorem lc_unblock {L A : Nat} {D M : am_D} {k : Option Value → am_D → Nat → Prop} (h : Rel L A D M none) (c s a b : Int32) (hk : lwk L k (mUn M c s a b)) : sp_X3_unblock L [.ref 0, .int c, .int s, .int a, .int b] D (21 + 2 * A) k := ⟨c, s, a, b, rfl, h.N, h.O.2.2.1, h.kg, h.bg, unblock_k (k := fun v D' => k (some (.int v)) D' (21 + 2 * A)) h (fun D' => hk A D')⟩
theorem lc_removeCoach {L A : Nat} {D M : am_D} {k : Option Value → am_D → Nat → Prop} (h : Rel L A D M none) (n : Int32) (hk : lwk L k (mRemove M n)) : sp_X3_removeCoach L [.ref 0, .int n] D (21 + 2 * A) k := ⟨A, n, rfl, rfl, h.ok, h.kg, h.bg, remove_k (k := fun v D' => k (some (.int v)) D' (21 + 2 * A)) h (fun D' => hk A D')⟩
theorem lc_standing {L A : Nat} {D M : am_D} {k : Option Value → am_D → Nat → Prop} (h : Rel L A D M none) (i : Int32) (hk : lwk L k (mStF M i (vR M) 0 0, mT M)) : sp_X3_standing L [.ref 0, .int i] D (21 + 2 * A) k := ⟨A, i, rfl, rfl, h.O, by rw [stand_eq h]; exact hk A D h.mT⟩
theorem lc_load {L A : Nat} {D M : am_D} {k : Option Value → am_D → Nat → Prop} (h : Rel L A D M none) (s t : Int32) (hk : lwk L k (mLoad M s t, mT M)) : sp_X3_load L [.ref 0, .int s, .int t] D (21 + 2 * A) k := ⟨A, s, t, rfl, rfl, h.O, by rw [load_eq h]; exact hk A D h.mT⟩
theorem lc_free {L A : Nat} {D M : am_D} {k : Option Value → am_D → Nat → Prop} (h : Rel L A D M none) (s t : Int32) (hk : lwk L k (mFree M s t, mT M)) : sp_X3_free L [.ref 0, .int s, .int t] D (21 + 2 * A) k := ⟨s, t, rfl, h.N, h.O.2.2.1, h.sg, by rw [free_eq h]; exact hk A D h.mT⟩
theorem lc_moved {L A : Nat} {D M : am_D} {k : Option Value → am_D → Nat → Prop} (h : Rel L A D M none) (hk : lwk L k (M 0 21, mT M)) : sp_X3_moved L [.ref 0] D (21 + 2 * A) k := ⟨rfl, h.N, by rw [h.m]; exact hk A D h.mT⟩
theorem lc_manifest {L A : Nat} {D M : am_D} {k : Option Value → am_D → Nat → Prop} (h : Rel L A D M none) (st i : Int32) (hk : lwk L k (mMan M st i, mT M)) : sp_X3_manifest L [.ref 0, .int st, .int i] D (21 + 2 * A) k := ⟨A, st, i, rfl, rfl, h.O, by rw [man_eq h.R h.I.st]; exact hk A D h.mT⟩
