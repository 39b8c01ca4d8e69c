/-! ===== products: the states whose quarters are among those told, stone by stone ===== -/
def oneL (v j : Nat) : Nat → Int64
  | 0 => 0
  | q + 1 => if v.testBit q then oneL v j q ||| (wm_first j <<< ((nI (q * 4 ^ j)).toInt64 &&& 63)) else oneL v j q
def patL (qb : Nat → Nat) (f : Nat) : Nat → Int64
  | 0 => -1
  | j + 1 => patL qb f j &&& oneL (qb (f + j)) j 4
theorem one_bit : ∀ v, v < 16 → ∀ j, j < 3 → ∀ x, x < 64 → lb (oneL v j 4) x = v.testBit (sQ x j) := by decide +kernel
theorem pat_bit {qb : Nat → Nat} {f x : Nat} (hq : ∀ j, j < 3 → qb (f + j) < 16) (hx : x < 64) : lb (patL qb f 3) x = ((qb f).testBit (sQ x 0) && ((qb (f + 1)).testBit (sQ x 1) && (qb (f + 2)).testBit (sQ x 2))) := by
  simp only [patL]
  rw [lb_and, lb_and, lb_and, lb_m1 x hx, one_bit _ (hq 0 (by omega)) 0 (by omega) x hx, one_bit _ (hq 1 (by omega)) 1 (by omega) x hx, one_bit _ (hq 2 (by omega)) 2 (by omega) x hx, Bool.true_and, Bool.and_assoc]
  rfl
def prodB (qb : Nat → Nat) (s : Nat) : Bool := wAll (fun k => (qb k).testBit (sQ s k)) 6
theorem sQ_lo {i x k : Nat} (hx : x < 64) (h : k < 3) : sQ (64 * i + x) k = sQ x k := by
  unfold sQ
  match k, h with
  | 0, _ => simp; omega
  | 1, _ => simp; omega
  | 2, _ => simp; omega
theorem sQ_hi {i x k : Nat} (hx : x < 64) : sQ (64 * i + x) (k + 3) = sQ i k := by
  unfold sQ
  rw [show 4 ^ (k + 3) = 64 * 4 ^ k by rw [Nat.pow_add, Nat.mul_comm], ← Nat.div_div_eq_div_mul, show (64 * i + x) / 64 = i by omega]
def jpB (B : Nat → Int64) (qb : Nat → Nat) : Nat → Int64 := wTo (fun i => if lb (patL qb 3 3) i then B i ||| patL qb 0 3 else B i) B 64
theorem sb_jp {B : Nat → Int64} {qb : Nat → Nat} {s : Nat} (hq : ∀ j, j < 6 → qb j < 16) (hs : s < 4096) : sb (jpB B qb) s = (sb B s || prodB qb s) := by
  have e : s = 64 * (s / 64) + s % 64 := by omega
  have hx : s % 64 < 64 := Nat.mod_lt _ (by decide)
  have hi : s / 64 < 64 := sb_lt hs
  unfold jpB
  rw [sb_to hs]
  have hp : prodB qb s = (lb (patL qb 0 3) (s % 64) && lb (patL qb 3 3) (s / 64)) := by
    rw [pat_bit (fun j hj => hq _ (by omega)) hx, pat_bit (fun j hj => hq _ (by omega)) hi]
    unfold prodB wAll
    conv => lhs; rw [e]
    simp only [show List.range 6 = [0, 1, 2, 3, 4, 5] from rfl, List.all_cons, List.all_nil, Bool.and_true]
    rw [sQ_lo hx (by omega : 0 < 3), sQ_lo hx (by omega : 1 < 3), sQ_lo hx (by omega : 2 < 3), show (3 : Nat) = 0 + 3 from rfl, show (4 : Nat) = 1 + 3 from rfl, show (5 : Nat) = 2 + 3 from rfl, sQ_hi hx, sQ_hi hx, sQ_hi hx]
    simp only [Bool.and_assoc]
  rw [hp]
  unfold sb
  cases h : lb (patL qb 3 3) (s / 64)
  · simp
  · simp [lb_or]
theorem tb_div (n q : Nat) : n.testBit q = decide (n / 2 ^ q % 2 = 1) := Nat.testBit_eq_decide_div_mod_eq
