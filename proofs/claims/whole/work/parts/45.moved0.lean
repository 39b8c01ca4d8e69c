/-! ===== a stone's turn over all states at once ===== -/
def ovL (st a : Nat) : Nat → Int64
  | 0 => 0
  | n + 1 => ovL st a n ||| (wm_first st <<< ((nI ((a + n) * 4 ^ st)).toInt64 &&& 63))
def mvL (b : Int64) (st q : Nat) : Int64 := ((b &&& (ovL st (4 - q) q ^^^ -1)) <<< ((nI (q * 4 ^ st)).toInt64 &&& 63)) ||| ((b &&& ovL st (4 - q) q).toUInt64 >>> ((nI ((4 - q) * 4 ^ st)).toInt64.toUInt64 &&& Int64.toUInt64 63)).toInt64
def mvB (B : Nat → Int64) (st q i : Nat) : Int64 := if 3 ≤ st then B (sMv i (st - 3) (4 - q)) else mvL (B i) st q
theorem p4_3 {st : Nat} (h : st < 3) : 4 ^ st ≤ 16 := by
  have : 4 ^ st ≤ 4 ^ 2 := Nat.pow_le_pow_right (by decide) (by omega)
  simpa using this
theorem sMv_dec (s k m : Nat) : sMv s k m = s / (4 ^ k * 4) * (4 ^ k * 4) + ((sQ s k + m) % 4) * 4 ^ k + s % 4 ^ k := by
  unfold sMv sQ
  have h1 := Nat.mod_add_div s (4 ^ k)
  have h2 := Nat.mod_add_div (s / 4 ^ k) 4
  have h3 : s / (4 ^ k * 4) = s / 4 ^ k / 4 := (Nat.div_div_eq_div_mul _ _ _).symm
  rw [h3]
  generalize s / 4 ^ k % 4 = d at *
  generalize s / 4 ^ k / 4 = u at *
  have h4 : s = s % 4 ^ k + 4 ^ k * (d + 4 * u) := by rw [h2]; exact h1.symm
  have h5 : 4 ^ k * (d + 4 * u) = d * 4 ^ k + u * (4 ^ k * 4) := by
    rw [Nat.mul_add, Nat.mul_comm (4 ^ k) d, Nat.mul_comm 4 u, Nat.mul_left_comm]
  rw [h5] at h4
  generalize (d + m) % 4 * 4 ^ k = e at *
  generalize d * 4 ^ k = f at *
  generalize u * (4 ^ k * 4) = g at *
  omega
theorem sMv_lt {s k m n : Nat} (hs : s < 4 ^ n) (hk : k < n) : sMv s k m < 4 ^ n := by
  rw [sMv_dec]
  have hp : 0 < 4 ^ k := Nat.pow_pos (by decide)
  obtain ⟨r, rfl⟩ : ∃ r, n = (k + 1) + r := ⟨n - (k + 1), by omega⟩
  have e : 4 ^ (k + 1 + r) = 4 ^ k * 4 * 4 ^ r := by rw [Nat.pow_add, Nat.pow_succ]
  rw [e] at hs ⊢
  have h1 : s / (4 ^ k * 4) < 4 ^ r := (Nat.div_lt_iff_lt_mul (Nat.mul_pos hp (by decide))).mpr (by rw [Nat.mul_comm]; exact hs)
  have h2 : s % 4 ^ k < 4 ^ k := Nat.mod_lt _ hp
  have h3 : (sQ s k + m) % 4 < 4 := Nat.mod_lt _ (by decide)
  have h4 : (s / (4 ^ k * 4) + 1) * (4 ^ k * 4) ≤ 4 ^ r * (4 ^ k * 4) := Nat.mul_le_mul_right _ h1
  have h5 : ((sQ s k + m) % 4) * 4 ^ k ≤ 3 * 4 ^ k := Nat.mul_le_mul_right _ (by omega)
  rw [Nat.succ_mul] at h4
  rw [Nat.mul_comm (4 ^ k * 4) (4 ^ r)]
  omega
theorem sMv_hi {i x st m : Nat} (hx : x < 64) (h : 3 ≤ st) : sMv (64 * i + x) st m = 64 * sMv i (st - 3) m + x := by
  obtain ⟨r, rfl⟩ : ∃ r, st = r + 3 := ⟨st - 3, by omega⟩
  rw [Nat.add_sub_cancel]
  have e : 4 ^ (r + 3) = 64 * 4 ^ r := by rw [Nat.pow_add, Nat.mul_comm]
  have q : sQ (64 * i + x) (r + 3) = sQ i r := by
    unfold sQ; rw [e, ← Nat.div_div_eq_div_mul, show (64 * i + x) / 64 = i by omega]
  have hle := sQ_le i r
  unfold sMv; rw [q, e]
  generalize (sQ i r + m) % 4 = d
  generalize sQ i r = a at *
  rw [show a * (64 * 4 ^ r) = 64 * (a * 4 ^ r) by rw [Nat.mul_left_comm], show d * (64 * 4 ^ r) = 64 * (d * 4 ^ r) by rw [Nat.mul_left_comm]]
  generalize a * 4 ^ r = A at *
  generalize d * 4 ^ r = D
  omega
theorem sMv_lo {i x st m : Nat} (hx : x < 64) (h : st < 3) : sMv (64 * i + x) st m = 64 * i + sMv x st m := by
  have q : sQ (64 * i + x) st = sQ x st := by
    unfold sQ
    match st, h with
    | 0, _ => simp; omega
    | 1, _ => simp; omega
    | 2, _ => simp; omega
  have hle := sQ_le x st
  unfold sMv; rw [q]
  omega
/-- the mask of the quarters that go round, by its bits -/
theorem ov_bit : ∀ st, st < 3 → ∀ q, q < 4 → 1 ≤ q → ∀ x, x < 64 → lb (ovL st (4 - q) q) x = decide (4 - q ≤ sQ x st) := by decide +kernel
theorem mv_a : ∀ st, st < 3 → ∀ q, q < 4 → 1 ≤ q → ∀ x, x < 64 → sMv x st (4 - q) < 64 := by decide +kernel
theorem mv_b : ∀ st, st < 3 → ∀ q, q < 4 → 1 ≤ q → ∀ x, x < 64 → q ≤ sQ x st → q * 4 ^ st ≤ x := by decide +kernel
theorem mv_c : ∀ st, st < 3 → ∀ q, q < 4 → 1 ≤ q → ∀ x, x < 64 → q ≤ sQ x st → sMv x st (4 - q) = x - q * 4 ^ st := by decide +kernel
theorem mv_d : ∀ st, st < 3 → ∀ q, q < 4 → 1 ≤ q → ∀ x, x < 64 → q ≤ sQ x st → sQ (x - q * 4 ^ st) st < 4 - q := by decide +kernel
theorem mv_e : ∀ st, st < 3 → ∀ q, q < 4 → ∀ x, x < 64 → (decide (1 ≤ q) && (decide (q ≤ sQ x st) && (decide ((4 - q) * 4 ^ st + x < 64) && !decide (sQ ((4 - q) * 4 ^ st + x) st < 4 - q)))) = false := by decide +kernel
theorem mv_f : ∀ st, st < 3 → ∀ q, q < 4 → 1 ≤ q → ∀ x, x < 64 → sQ x st < q → sMv x st (4 - q) = (4 - q) * 4 ^ st + x := by decide +kernel
theorem mv_g : ∀ st, st < 3 → ∀ q, q < 4 → 1 ≤ q → ∀ x, x < 64 → sQ x st < q → (4 - q) * 4 ^ st + x < 64 := by decide +kernel
theorem mv_h : ∀ st, st < 3 → ∀ q, q < 4 → 1 ≤ q → ∀ x, x < 64 → sQ x st < q → 4 - q ≤ sQ ((4 - q) * 4 ^ st + x) st := by decide +kernel
theorem mv_i : ∀ st, st < 3 → ∀ q, q < 4 → ∀ x, x < 64 → (decide (1 ≤ q) && (decide (sQ x st < q) && (decide (q * 4 ^ st ≤ x) && !decide (4 - q ≤ sQ (x - q * 4 ^ st) st)))) = false := by decide +kernel
theorem mv_num (st : Nat) (h1 : st < 3) (q : Nat) (h2 : q < 4) (h3 : 1 ≤ q) (x : Nat) (h4 : x < 64) : sMv x st (4 - q) < 64 ∧ (q ≤ sQ x st → q * 4 ^ st ≤ x ∧ sMv x st (4 - q) = x - q * 4 ^ st ∧ sQ (x - q * 4 ^ st) st < 4 - q ∧ ((4 - q) * 4 ^ st + x < 64 → sQ ((4 - q) * 4 ^ st + x) st < 4 - q)) ∧ (sQ x st < q → sMv x st (4 - q) = (4 - q) * 4 ^ st + x ∧ (4 - q) * 4 ^ st + x < 64 ∧ 4 - q ≤ sQ ((4 - q) * 4 ^ st + x) st ∧ (q * 4 ^ st ≤ x → 4 - q ≤ sQ (x - q * 4 ^ st) st)) :=
  ⟨mv_a st h1 q h2 h3 x h4, fun h => ⟨mv_b st h1 q h2 h3 x h4 h, mv_c st h1 q h2 h3 x h4 h, mv_d st h1 q h2 h3 x h4 h, fun z => by have := mv_e st h1 q h2 x h4; simpa [h3, h, z] using this⟩, fun h => ⟨mv_f st h1 q h2 h3 x h4 h, mv_g st h1 q h2 h3 x h4 h, mv_h st h1 q h2 h3 x h4 h, fun z => by have := mv_i st h1 q h2 x h4; simpa [h3, h, z] using this⟩⟩
theorem mvL_bit {b : Int64} {st q x : Nat} (hst : st < 3) (hq : q < 4) (hq1 : 1 ≤ q) (hx : x < 64) : lb (mvL b st q) x = lb b (sMv x st (4 - q)) := by
  have hp := p4_3 hst
  have h1 : q * 4 ^ st < 64 := Nat.lt_of_le_of_lt (Nat.mul_le_mul (show q ≤ 3 by omega) hp) (by decide)
  have h2 : (4 - q) * 4 ^ st < 64 := Nat.lt_of_le_of_lt (Nat.mul_le_mul (show 4 - q ≤ 3 by omega) hp) (by decide)
  obtain ⟨n1, n2, n3⟩ := mv_num st hst q hq hq1 x hx
  unfold mvL
  rw [lb_or, lb_shl h1 _ hx, lb_ushr h2, lb_and, lb_and, lb_xor]
  by_cases hd : q ≤ sQ x st
  · obtain ⟨a1, a2, a3, a4⟩ := n2 hd
    rw [a2, decide_eq_true a1, ov_bit st hst q hq hq1 (x - q * 4 ^ st) (by omega), decide_eq_false (by omega), lb_m1 _ (by omega)]
    by_cases hc : (4 - q) * 4 ^ st + x < 64
    · rw [ov_bit st hst q hq hq1 _ hc, decide_eq_false (by have := a4 hc; omega)]; simp
    · rw [lb_big (by omega : 64 ≤ (4 - q) * 4 ^ st + x)]; simp
  · obtain ⟨a1, a2, a3, a4⟩ := n3 (by omega)
    rw [a1, ov_bit st hst q hq hq1 _ a2, decide_eq_true a3]
    by_cases hc : q * 4 ^ st ≤ x
    · rw [ov_bit st hst q hq hq1 (x - q * 4 ^ st) (by omega), decide_eq_true (a4 hc), lb_m1 _ (by omega)]; simp
    · rw [decide_eq_false hc]; simp
theorem sb_moved {B : Nat → Int64} {st q s : Nat} (hst : st < 6) (hq : q < 4) (hq1 : 1 ≤ q) (hs : s < 4096) : lb (mvB B st q (s / 64)) (s % 64) = sb B (sMv s st (4 - q)) := by
  have e : s = 64 * (s / 64) + s % 64 := by omega
  have hx : s % 64 < 64 := Nat.mod_lt _ (by decide)
  unfold mvB sb
  by_cases h : 3 ≤ st
  · rw [if_pos h]
    conv => rhs; rw [e]
    rw [sMv_hi hx h, show (64 * sMv (s / 64) (st - 3) (4 - q) + s % 64) / 64 = sMv (s / 64) (st - 3) (4 - q) by omega, show (64 * sMv (s / 64) (st - 3) (4 - q) + s % 64) % 64 = s % 64 by omega]
  · rw [if_neg h, mvL_bit (by omega) hq hq1 hx]
    have h2 := (mv_num st (by omega) q hq hq1 _ hx).1
    conv => rhs; rw [e]
    rw [sMv_lo hx (by omega), show (64 * (s / 64) + sMv (s % 64) st (4 - q)) / 64 = s / 64 by omega, show (64 * (s / 64) + sMv (s % 64) st (4 - q)) % 64 = sMv (s % 64) st (4 - q) by omega]
