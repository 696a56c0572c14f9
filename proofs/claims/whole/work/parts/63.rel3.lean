/-! ===== desk and reference: the fewest changes ===== -/
theorem run_min {M : am_D} {p one : Int32} : ∀ (f g s : Nat), g ≤ f → mRun M p one g s = min (mRun M p one f s) g
  | f, 0, s, _ => by
    show 0 = _
    omega
  | 0, g + 1, s, h => absurd h (by omega)
  | f + 1, g + 1, s, h => by
    by_cases hf : mFr M p s one
    · rw [mRun_t hf, mRun_t hf, run_min f g (s + 1) (by omega)]
      omega
    · rw [mRun_f hf, mRun_f hf]
      omega
