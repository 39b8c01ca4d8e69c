def tHad (kd : Nat → Int32) (n : Nat) : Nat → Int32 := fun k => if k < n then sHad (kd k) else 1
/-- the words of those sides as bits -/
def sSeen (p : Nat → Bool) (wn : Nat → Nat) : Nat → Nat
  | 0 => 0
  | i + 1 => if p i then sSeen p wn i ||| 2 ^ wn i else sSeen p wn i
theorem sSeen_lt {p : Nat → Bool} {wn : Nat → Nat} : ∀ {n : Nat}, (∀ i, i < n → p i = true → wn i < 8) → sSeen p wn n < 256
  | 0, _ => by simp [sSeen]
  | n + 1, h => by
    have h1 := sSeen_lt (p := p) (wn := wn) (n := n) (fun i hi => h i (by omega))
    simp only [sSeen]
    split
    · rename_i hp
      have h2 := h n (by omega) hp
      have h3 : 2 ^ wn n < 2 ^ 8 := Nat.pow_lt_pow_right (by decide) h2
      exact Nat.or_lt_two_pow (n := 8) h1 h3
    · exact h1
def pcN (n : Nat) : Nat := wCnt (fun i => n.testBit i) 8
theorem bc_i : ∀ n, n < 256 → (let i := nI n
    let a := i - ((i.toUInt32 >>> ((1 : Int32).toUInt32 &&& Int32.toUInt32 31)).toInt32 &&& 1431655765)
    let b := (a &&& 858993459) + ((a.toUInt32 >>> ((2 : Int32).toUInt32 &&& Int32.toUInt32 31)).toInt32 &&& 858993459)
    let c := (b + (b.toUInt32 >>> ((4 : Int32).toUInt32 &&& Int32.toUInt32 31)).toInt32) &&& 252645135
    let d := c + (c.toUInt32 >>> ((8 : Int32).toUInt32 &&& Int32.toUInt32 31)).toInt32
    let e := d + (d.toUInt32 >>> ((16 : Int32).toUInt32 &&& Int32.toUInt32 31)).toInt32
    e &&& 63 = nI (pcN n)) := by decide +kernel
def tNote (M : wm_M) (f : Nat) : wm_M := wI (wI M 92 3 (nI f)) 93 f (M.1 93 f + 1)
def tFrac (M : wm_M) (a b : Nat) : wm_M := wJ (wJ M 92 1 (lN (a / Nat.gcd a b))) 92 2 (lN (b / Nat.gcd a b))
/-- Euclid's step halves the product -/
theorem eu_half {w r : Nat} (h : r ≤ w) : 2 * (r * (w % r)) ≤ w * r := by
  rcases Nat.eq_zero_or_pos r with h0 | h0
  · subst h0; simp
  · have h1 := Nat.mod_lt w h0
    have h2 : w % r + r ≤ w := by
      have h3 := Nat.mod_add_div w r
      have h4 : 1 ≤ w / r := Nat.div_pos h h0
      have h5 : r * 1 ≤ r * (w / r) := Nat.mul_le_mul_left r h4
      omega
    have h6 : 2 * (w % r) ≤ w := by omega
    calc 2 * (r * (w % r)) = r * (2 * (w % r)) := by rw [Nat.mul_left_comm]
      _ ≤ r * w := Nat.mul_le_mul_left r h6
      _ = w * r := Nat.mul_comm _ _
theorem lN_rem {a b : Nat} (ha : a < 2 ^ 63) (h0 : 0 < b) (hb : b < 2 ^ 63) : lN a - lN a / lN b * lN b = lN (a % b) := pk_lRem ha h0 hb
theorem lN_ne0 {b : Nat} (h0 : 0 < b) (hb : b < 2 ^ 63) : ¬ lN b = 0 := fun e => by
  have := (pk_lEQ hb (by decide : (0:Nat) < 2 ^ 63)).mp e
  omega
theorem lg_cmp0 {b : Nat} (hb : b < 2 ^ 63) : lg_cmp (lN b) 0 = 0 ↔ b = 0 := by
  have h0 : (0 : Int64) = lN 0 := rfl
  rw [h0]
  unfold lg_cmp
  have h1 := pk_lLT hb (by decide : (0 : Nat) < 2 ^ 63)
  have h2 := pk_lLT (by decide : (0 : Nat) < 2 ^ 63) hb
  have h3 := pk_lEQ hb (by decide : (0 : Nat) < 2 ^ 63)
  by_cases h : b = 0
  · subst h; simp
  · have h4 : ¬ lN b < lN 0 := fun q => by have := h1.mp q; omega
    have h5 : lN 0 < lN b := h2.mpr (by omega)
    have h6 : ¬ lN b = lN 0 := fun q => h (h3.mp q)
    simp only [h4, h5, h6, h, if_false, if_true, iff_false]
    first | decide | simp
