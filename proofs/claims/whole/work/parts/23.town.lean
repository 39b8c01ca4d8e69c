/-! ===== a town's numbers ===== -/
def isOfB (own kind : Int32) : Bool := decide (own = kind) || ((decide (kind = 1) && decide (own = 4)) || (decide (kind = 2) && decide (own = 5)))
def sFix (x : Int32) : Bool := decide (x = 2) || decide (x = 5)
theorem isOfB_fix (x : Int32) : isOfB x 2 = sFix x := by simp [isOfB, sFix]
def sStep (x : Int32) : Nat := if sFix x then 0 else if x = 3 then 2 else 1
def sMost (x : Int32) : Nat := if sFix x then 0 else if x = 3 then 1 else 3
theorem sMost_le (x : Int32) : sMost x ≤ 3 := by unfold sMost; split <;> (try split) <;> omega
theorem sStep_le (x : Int32) : sStep x ≤ 2 := by unfold sStep; split <;> (try split) <;> omega
def sQ (s k : Nat) : Nat := s / 4 ^ k % 4
theorem sQ_lt (s k : Nat) : sQ s k < 4 := Nat.mod_lt _ (by decide)
/-- state s with m quarters more of stone k -/
def sMv (s k m : Nat) : Nat := s - sQ s k * 4 ^ k + ((sQ s k + m) % 4) * 4 ^ k
def sLen (w h st : Nat) : Nat := if st < h then w else h
def sAt (w h st e i : Nat) : Nat := if st < h then st * w + (if e = 0 then i else w - 1 - i) else (if e = 0 then i else h - 1 - i) * w + st - h
def sFst (h st e : Nat) : Nat := (if st < h then 0 else 1) + 2 * e
def sShow (kd wd : Nat → Int32) (k side : Nat) : Int32 := if kd k = 5 then -1 else wd (4 * k + side)
def sHad (x : Int32) : Int32 := if sMost x = 3 then 15 else if sMost x = 1 then 5 else 1
theorem sQ_le (s k : Nat) : sQ s k * 4 ^ k ≤ s := by
  unfold sQ
  have h1 : s / 4 ^ k % 4 ≤ s / 4 ^ k := Nat.mod_le _ _
  exact Nat.le_trans (Nat.mul_le_mul_right _ h1) (Nat.div_mul_le_self _ _)
/-! numbers on the machine -/
theorem s_l32 : ∀ n, n < 32 → ((nI n &&& 31).toBitVec.smod 32).toNat = n := by decide +kernel
theorem nI_and3 {a : Nat} (h : a < 2 ^ 32) : nI a &&& 3 = nI (a % 4) := pk_andN h 2 rfl
theorem nI_and1 {a : Nat} (h : a < 2 ^ 32) : nI a &&& 1 = nI (a % 2) := pk_andN h 1 rfl
theorem nI_shr {a k : Nat} (h : a < 2 ^ 31) (hk : k < 32) : nI a >>> (nI k &&& 31) = nI (a / 2 ^ k) := pk_shrN h _ k (s_l32 k hk)
theorem nI_shl {a k : Nat} (hk : k < 32) (h : a * 2 ^ k < 2 ^ 32) : nI a <<< (nI k &&& 31) = nI (a * 2 ^ k) := pk_shlN _ k (s_l32 k hk) h
theorem p4 (k : Nat) : 2 ^ (2 * k) = 4 ^ k := by rw [Nat.pow_mul]
theorem sh_q {s k : Nat} (hs : s < 2 ^ 31) (hk : k < 16) : nI s >>> (nI (2 * k) &&& 31) &&& 3 = nI (sQ s k) := by
  rw [nI_shr hs (by omega), p4, nI_and3 (Nat.lt_of_le_of_lt (Nat.div_le_self _ _) (by omega))]; rfl
theorem nI_or (a b : Nat) : nI a ||| nI b = nI (a ||| b) := by
  apply Int32.toBitVec_inj.mp
  rw [Int32.toBitVec_or]
  show BitVec.ofNat 32 a ||| BitVec.ofNat 32 b = BitVec.ofNat 32 (a ||| b)
  rw [BitVec.ofNat_or]
theorem nI_and (a b : Nat) : nI a &&& nI b = nI (a &&& b) := by
  apply Int32.toBitVec_inj.mp
  rw [Int32.toBitVec_and]
  show BitVec.ofNat 32 a &&& BitVec.ofNat 32 b = BitVec.ofNat 32 (a &&& b)
  rw [BitVec.ofNat_and]
theorem nI_pow : ∀ k, k < 32 → (1 : Int32) <<< (nI k &&& 31) = nI (2 ^ k) := by decide +kernel
theorem nI_orp {a k : Nat} (h : a < 2 ^ k) (hk : k < 32) : nI a ||| ((1 : Int32) <<< (nI k &&& 31)) = nI (a + 2 ^ k) := by
  rw [nI_pow k hk, nI_or]
  have := Nat.two_pow_add_eq_or_of_lt h 1
  rw [Nat.mul_one] at this
  rw [Nat.or_comm, ← this, Nat.add_comm]
/-- the set of those below n that are so, as bits -/
def wBits (p : Nat → Bool) : Nat → Nat
  | 0 => 0
  | n + 1 => wBits p n + if p n then 2 ^ n else 0
theorem wBits_lt (p : Nat → Bool) : ∀ n, wBits p n < 2 ^ n
  | 0 => Nat.one_pos
  | n + 1 => by
    have := wBits_lt p n
    have h2 : 2 ^ (n + 1) = 2 ^ n + 2 ^ n := by omega
    simp only [wBits]; split <;> omega
theorem wBits_t {p : Nat → Bool} {n : Nat} (h : p n = true) (hn : n < 32) : nI (wBits p n) ||| ((1 : Int32) <<< (nI n &&& 31)) = nI (wBits p (n + 1)) := by
  rw [nI_orp (wBits_lt p n) hn]; simp [wBits, h]
theorem wBits_f {p : Nat → Bool} {n : Nat} (h : p n = false) : nI (wBits p n) = nI (wBits p (n + 1)) := by simp [wBits, h]
theorem wBits_bit (p : Nat → Bool) : ∀ (n i : Nat), (wBits p n).testBit i = (decide (i < n) && p i)
  | 0, i => by simp [wBits]
  | n + 1, i => by
    have hl := wBits_lt p n
    simp only [wBits]
    by_cases hp : p n = true
    · rw [if_pos hp]
      have h1 : wBits p n + 2 ^ n = 2 ^ n * 1 + wBits p n := by omega
      rw [h1, Nat.testBit_two_pow_mul_add 1 hl]
      by_cases hi : i < n
      · rw [if_pos hi, wBits_bit p n i]; simp [hi, Nat.lt_succ_of_lt hi]
      · rw [if_neg hi]
        by_cases h : i = n
        · subst h; simp [hp]
        · have : ¬ i < n + 1 := by omega
          have h9 : i - n ≠ 0 := by omega
          simp [this]
          exact Bool.eq_false_iff.mpr (fun q => h9 (Nat.testBit_one_eq_true_iff_self_eq_zero.mp q))
    · rw [if_neg hp, Nat.add_zero, wBits_bit p n i]
      by_cases h : i = n
      · subst h; simp [hp]
      · have : (decide (i < n + 1)) = decide (i < n) := by
          by_cases h2 : i < n
          · simp [h2, Nat.lt_succ_of_lt h2]
          · simp [h2]; omega
        rw [this]
theorem wBits_cong {p q : Nat → Bool} : ∀ {n : Nat}, (∀ i, i < n → p i = q i) → wBits p n = wBits q n
  | 0, _ => rfl
  | n + 1, h => by simp only [wBits]; rw [wBits_cong (fun i hi => h i (by omega)), h n (by omega)]
theorem wCnt_cong {p q : Nat → Bool} : ∀ {n : Nat}, (∀ i, i < n → p i = q i) → wCnt p n = wCnt q n
  | 0, _ => rfl
  | n + 1, h => by simp only [wCnt]; rw [wCnt_cong (fun i hi => h i (by omega)), h n (by omega)]
def wSum (f : Nat → Nat) : Nat → Nat
  | 0 => 0
  | n + 1 => wSum f n + f n
theorem wSum_cong {f g : Nat → Nat} : ∀ {n : Nat}, (∀ i, i < n → f i = g i) → wSum f n = wSum g n
  | 0, _ => rfl
  | n + 1, h => by simp only [wSum]; rw [wSum_cong (fun i hi => h i (by omega)), h n (by omega)]
theorem wSum_le {f : Nat → Nat} {c : Nat} : ∀ {n : Nat}, (∀ i, i < n → f i ≤ c) → wSum f n ≤ n * c
  | 0, _ => by simp [wSum]
  | n + 1, h => by
    have h1 := wSum_le (f := f) (c := c) (n := n) (fun i hi => h i (by omega))
    have h2 := h n (by omega)
    simp only [wSum]; rw [Nat.succ_mul]; omega
/-- the first one below n that is so, or NONE -/
def wFind (p : Nat → Bool) (n : Nat) : Int32 := match (List.range n).find? p with
  | some i => nI i
  | none => -9
theorem wFind_some {p : Nat → Bool} {n i : Nat} (hi : i < n) (hp : p i = true) (h : ∀ j, j < i → p j = false) : wFind p n = nI i := by
  unfold wFind
  rw [List.find?_range_eq_some.mpr ⟨hp, List.mem_range.mpr hi, fun j hj => by simp [h j hj]⟩]
theorem wFind_none {p : Nat → Bool} {n : Nat} (h : ∀ j, j < n → p j = false) : wFind p n = -9 := by
  unfold wFind
  rw [List.find?_range_eq_none.mpr (fun j hj => by simp [h j hj])]
theorem wFind_cases (p : Nat → Bool) (n : Nat) : (wFind p n = -9 ∧ ∀ j, j < n → p j = false) ∨ ∃ i, i < n ∧ wFind p n = nI i ∧ p i = true ∧ ∀ j, j < i → p j = false := by
  cases h : (List.range n).find? p with
  | none =>
    refine Or.inl ⟨by simp [wFind, h], fun j hj => ?_⟩
    have := List.find?_range_eq_none.mp h j hj
    simpa using this
  | some i =>
    obtain ⟨h1, h2, h3⟩ := List.find?_range_eq_some.mp h
    exact Or.inr ⟨i, List.mem_range.mp h2, by simp [wFind, h], h1, fun j hj => by simpa using h3 j hj⟩
theorem wFind_cong {p q : Nat → Bool} {n : Nat} (h : ∀ i, i < n → p i = q i) : wFind p n = wFind q n := by
  rcases wFind_cases p n with ⟨e, h1⟩ | ⟨i, hi, e, h1, h2⟩
  · rw [e, wFind_none (fun j hj => by rw [← h j hj]; exact h1 j hj)]
  · rw [e, wFind_some hi (by rw [← h i hi]; exact h1) (fun j hj => by rw [← h j (by omega)]; exact h2 j hj)]
/-- the stones' cells -/
def SO (o : Nat) : Prop := wm_sh o = .inl (4, [(0, 0), (0, 0), (2, o + 1), (2, o + 2), (2, o + 3), (2, o + 4)]) ∧ wm_sh (o + 1) = .inr (0, 6, 0, 0) ∧ wm_sh (o + 2) = .inr (0, 24, 0, 0) ∧ wm_sh (o + 3) = .inr (0, 6, 0, 0) ∧ wm_sh (o + 4) = .inr (0, 6, 0, 0)
theorem SO_17 : SO 17 := ⟨rfl, rfl, rfl, rfl, rfl⟩
theorem SO_22 : SO 22 := ⟨rfl, rfl, rfl, rfl, rfl⟩
/-- the town is w by h stones -/
def TW (M : wm_M) (w h : Nat) : Prop := M.1 17 0 = nI w ∧ M.1 17 1 = nI h ∧ w ≤ 3 ∧ h ≤ 2
theorem TW_n {M : wm_M} {w h : Nat} (hW : TW M w h) : w * h ≤ 6 := by
  obtain ⟨-, -, h1, h2⟩ := hW
  exact Nat.le_trans (Nat.mul_le_mul h1 h2) (by decide)
theorem TW_I {M : wm_M} {w h a : Nat} {f : Nat → Int32} (hW : TW M w h) (ha : a ≠ 17) : TW (wIa M a f) w h := by
  unfold TW; rw [wIa_n (Ne.symm ha)]; exact hW
theorem TW_J {M : wm_M} {w h a : Nat} {f : Nat → Int64} (hW : TW M w h) : TW (wJa M a f) w h := hW
