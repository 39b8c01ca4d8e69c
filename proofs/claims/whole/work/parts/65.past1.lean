theorem lastT_le (M : wm_M) (y : Nat) : ∀ n, lastT M y n ≤ y
  | 0 => Nat.zero_le _
  | n + 1 => by
    have := lastT_le M y n
    simp only [lastT]; split <;> omega
