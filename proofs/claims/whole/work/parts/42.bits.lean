/-! ===== a long by its bits ===== -/
def lb (x : Int64) (i : Nat) : Bool := x.toBitVec.getLsbD i
theorem lb_ext {x y : Int64} (h : ∀ i, i < 64 → lb x i = lb y i) : x = y := Int64.toBitVec_inj.mp (BitVec.eq_of_getLsbD_eq (fun i hi => h i hi))
theorem lb_or (x y : Int64) (i : Nat) : lb (x ||| y) i = (lb x i || lb y i) := by unfold lb; rw [Int64.toBitVec_or, BitVec.getLsbD_or]
theorem lb_and (x y : Int64) (i : Nat) : lb (x &&& y) i = (lb x i && lb y i) := by unfold lb; rw [Int64.toBitVec_and, BitVec.getLsbD_and]
theorem lb_xor (x y : Int64) (i : Nat) : lb (x ^^^ y) i = (lb x i ^^ lb y i) := by unfold lb; rw [Int64.toBitVec_xor, BitVec.getLsbD_xor]
theorem lb_big {x : Int64} {i : Nat} (h : 64 ≤ i) : lb x i = false := BitVec.getLsbD_of_ge _ _ h
theorem lb_0 (i : Nat) : lb 0 i = false := BitVec.getLsbD_zero
theorem lb_m1 : ∀ i, i < 64 → lb (-1) i = true := by decide +kernel
theorem lb_1 (i : Nat) : lb 1 i = decide (i = 0) := by
  rcases Nat.lt_or_ge i 64 with h | h
  · have : ∀ i, i < 64 → lb 1 i = decide (i = 0) := by decide +kernel
    exact this i h
  · rw [lb_big h, decide_eq_false (by omega)]
theorem lb_c : ∀ k, k < 64 → ((nI k).toInt64 &&& 63) = lN k := by decide +kernel
theorem lb_cu : ∀ k, k < 64 → ((nI k).toInt64.toUInt64 &&& Int64.toUInt64 63) = UInt64.ofNat k := by decide +kernel
theorem lb_sm : ∀ k, k < 64 → ((lN k).toBitVec.smod 64).toNat = k := by decide +kernel
theorem lb_shl {n : Nat} (hn : n < 64) (x : Int64) {i : Nat} (hi : i < 64) : lb (x <<< ((nI n).toInt64 &&& 63)) i = (decide (n ≤ i) && lb x (i - n)) := by
  unfold lb
  rw [lb_c n hn, Int64.toBitVec_shiftLeft]
  show (x.toBitVec <<< ((lN n).toBitVec.smod 64).toNat).getLsbD i = _
  rw [lb_sm n hn, BitVec.getLsbD_shiftLeft]
  rcases Nat.lt_or_ge i n with h | h
  · simp [h, Nat.not_le.mpr h]
  · simp [hi, h, Nat.not_lt.mpr h]
theorem lb_ushr {n : Nat} (hn : n < 64) (x : Int64) (i : Nat) : lb ((x.toUInt64 >>> ((nI n).toInt64.toUInt64 &&& Int64.toUInt64 63)).toInt64) i = lb x (n + i) := by
  rw [lb_cu n hn]
  have e : (x.toUInt64 >>> UInt64.ofNat n).toInt64.toBitVec = x.toBitVec >>> n := by
    apply BitVec.eq_of_toNat_eq
    show (x.toUInt64 >>> UInt64.ofNat n).toNat = _
    have h1 : (UInt64.ofNat n).toNat = n := by
      show (BitVec.ofNat 64 n).toNat = n
      rw [BitVec.toNat_ofNat, Nat.mod_eq_of_lt (by omega)]
    rw [UInt64.toNat_shiftRight, h1, Nat.mod_eq_of_lt hn, BitVec.toNat_ushiftRight]
    rfl
  unfold lb
  rw [e, BitVec.getLsbD_ushiftRight]
theorem lb_one (x : Int64) : x &&& 1 = if lb x 0 then 1 else 0 := by
  apply lb_ext
  intro i hi
  rw [lb_and, lb_1]
  cases h : lb x 0
  · by_cases h0 : i = 0
    · subst h0; simp [h, lb_0]
    · simp [h0, lb_0]
  · by_cases h0 : i = 0
    · subst h0; simp [h, lb_1]
    · simp [h0, lb_1]
theorem lb_test {n : Nat} (hn : n < 64) (x : Int64) : lg_cmp ((x.toUInt64 >>> ((nI n).toInt64.toUInt64 &&& Int64.toUInt64 63)).toInt64 &&& 1) 1 = 0 ↔ lb x n = true := by
  rw [lb_one, lb_ushr hn, Nat.add_zero]
  cases lb x n
  · simp only [Bool.false_eq_true, if_false, iff_false]; decide
  · simp only [if_true, iff_true]; decide
theorem lg_cmp00 (x : Int64) : lg_cmp x 0 = 0 ↔ x = 0 := by
  unfold lg_cmp
  by_cases h1 : x > 0
  · rw [if_pos h1]
    constructor
    · intro h; exact absurd h (by decide)
    · intro h; subst h; exact absurd h1 (by decide)
  · rw [if_neg h1]
    by_cases h2 : x = 0
    · rw [if_pos h2]; simp [h2]
    · rw [if_neg h2]
      constructor
      · intro h; exact absurd h (by decide)
      · intro h; exact absurd h h2
/-! ===== a set of states: its longs ===== -/
def sb (B : Nat → Int64) (s : Nat) : Bool := lb (B (s / 64)) (s % 64)
def SS (k : Nat) : Prop := wm_sh k = .inl (3, [(2, k + 1)]) ∧ wm_sh (k + 1) = .inr (1, 64, 0, 0)
theorem SS_all : ∀ k, k < 122 → (match wm_sh k with | .inl o => if o.1 = 3 then decide (wm_sh k = .inl (3, [(2, k + 1)])) && decide (wm_sh (k + 1) = .inr (1, 64, 0, 0)) else true | .inr _ => true) = true := by decide +kernel
theorem sb_lt {s : Nat} (h : s < 4096) : s / 64 < 64 := by omega
theorem wTo_full {α : Type} {f g : Nat → α} {n j : Nat} (h : j < n) : wTo f g n j = f j := if_pos h
theorem sb_fill {B : Nat → Int64} {s : Nat} (h : s < 4096) : sb (wFill B 0 64 0) s = false := by
  unfold sb; rw [wFill_in (Nat.zero_le _) (sb_lt h), lb_0]
theorem sb_cpy {B C : Nat → Int64} {s : Nat} (h : s < 4096) : sb (va_cpy C B 0 0 64) s = sb C s := by
  unfold sb; rw [pk_cpy_in (Nat.zero_le _) (by have := sb_lt h; omega)]; simp
theorem sb_to {f B : Nat → Int64} {s : Nat} (h : s < 4096) : sb (wTo f B 64) s = lb (f (s / 64)) (s % 64) := by
  unfold sb; rw [wTo_full (sb_lt h)]
/-- a set all of whose longs are 0 -/
theorem sb_empty {B : Nat → Int64} : (∀ i, i < 64 → B i = 0) ↔ ∀ s, s < 4096 → sb B s = false := by
  constructor
  · intro h s hs; unfold sb; rw [h _ (sb_lt hs), lb_0]
  · intro h i hi
    apply lb_ext
    intro j hj
    have := h (64 * i + j) (by omega)
    unfold sb at this
    rw [show (64 * i + j) / 64 = i by omega, show (64 * i + j) % 64 = j by omega] at this
    rw [this, lb_0]
theorem nI_and63 {a : Nat} (h : a < 2 ^ 32) : nI a &&& 63 = nI (a % 64) := pk_andN h 6 rfl
theorem nI_shr6 {a : Nat} (h : a < 2 ^ 31) : nI a >>> (6 &&& 31) = nI (a / 64) := nI_shr (k := 6) h (by decide)
/-- the least place of a bit that is set, by what stands below it -/
theorem lb_low {x : Int64} {t : Nat} (ht : t < 64) (h : lb x t = true) (hl : ∀ j, j < t → lb x j = false) : (x - 1) &&& (x ^^^ -1) = lN (2 ^ t - 1) := by
  have hp : 2 ^ t < 2 ^ 64 := Nat.pow_lt_pow_right (by decide) ht
  have hp0 : 0 < 2 ^ t := Nat.two_pow_pos t
  generalize hn : x.toBitVec.toNat = n
  have hnl : n < 2 ^ 64 := by rw [← hn]; exact x.toBitVec.isLt
  have hb : ∀ j, lb x j = n.testBit j := fun j => by unfold lb; rw [← hn]; rfl
  have hm0 : n % 2 ^ t = 0 := by
    apply Nat.eq_of_testBit_eq
    intro j
    rw [Nat.testBit_mod_two_pow, Nat.zero_testBit]
    by_cases hj : j < t
    · rw [← hb, hl j hj]; simp
    · simp [hj]
  have hdm := Nat.mod_add_div n (2 ^ t)
  rw [hm0, Nat.zero_add] at hdm
  have hodd : (n / 2 ^ t) % 2 = 1 := by
    have h1 : (n / 2 ^ t).testBit 0 = true := by rw [Nat.testBit_div_two_pow, Nat.zero_add, ← hb]; exact h
    rw [Nat.testBit_zero] at h1
    simpa using h1
  obtain ⟨y, hy⟩ : ∃ y, n / 2 ^ t = 2 * y + 1 := ⟨n / 2 ^ t / 2, by omega⟩
  rw [hy] at hdm
  have hn1 : n - 1 = 2 ^ t * (2 * y) + (2 ^ t - 1) := by rw [← hdm, Nat.mul_add]; omega
  have hn2 : n = 2 ^ t * (2 * y + 1) + 0 := by rw [Nat.add_zero]; exact hdm.symm
  have hpos : 0 < n := by rw [← hdm]; exact Nat.mul_pos hp0 (by omega)
  apply lb_ext
  intro j hj
  rw [lb_and, lb_xor, lb_m1 j hj, hb]
  have e1 : lb (x - 1) j = (n - 1).testBit j := by
    unfold lb
    rw [Int64.toBitVec_sub]
    show (x.toBitVec - 1#64).toNat.testBit j = _
    congr 1
    rw [BitVec.toNat_sub, hn]
    show (2 ^ 64 - 1 + n) % 2 ^ 64 = n - 1
    omega
  have e2 : lb (lN (2 ^ t - 1)) j = decide (j < t) := by
    show (BitVec.ofNat 64 (2 ^ t - 1)).toNat.testBit j = _
    rw [BitVec.toNat_ofNat, Nat.mod_eq_of_lt (by omega), Nat.testBit_two_pow_sub_one]
  rw [e1, e2, hn1]
  conv => lhs; rhs; rw [hn2]
  rw [Nat.testBit_two_pow_mul_add _ (by omega), Nat.testBit_two_pow_mul_add _ hp0]
  by_cases hjt : j < t
  · rw [if_pos hjt, if_pos hjt, Nat.testBit_two_pow_sub_one]; simp [hjt]
  · rw [if_neg hjt, if_neg hjt, decide_eq_false hjt]
    cases hd : j - t with
    | zero => simp [Nat.testBit_zero]
    | succ i =>
      rw [Nat.testBit_succ, Nat.testBit_succ, show 2 * y / 2 = y by omega, show (2 * y + 1) / 2 = y by omega]
      cases y.testBit i <;> rfl
def bcL (x : Int64) : Int32 :=
  let sh := fun (a : Int64) (n : Int32) => (a.toUInt64 >>> (n.toInt64.toUInt64 &&& Int64.toUInt64 63)).toInt64
  let a := x - (sh x 1 &&& 6148914691236517205)
  let b := (a &&& 3689348814741910323) + (sh a 2 &&& 3689348814741910323)
  let c := (b + sh b 4) &&& 1085102592571150095
  let d := c + sh c 8
  let e := d + sh d 16
  let f := e + sh e 32
  f.toInt32 &&& 127
theorem bcL_low : ∀ t, t < 64 → bcL (lN (2 ^ t - 1)) = nI t := by decide +kernel
