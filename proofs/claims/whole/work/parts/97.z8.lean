/-! ===== the reference: what histories tell ===== -/
theorem wSum_ifb {p : Nat → Bool} {f : Nat → Nat} {c : Nat} : ∀ {n : Nat}, (∀ i, i < n → f i ≤ c) → wSum (fun j => if p j then f j else 0) n ≤ wCnt p n * c
  | 0, _ => by simp [wSum]
  | n + 1, h => by
    have ih := wSum_ifb (p := p) (n := n) (fun i hi => h i (by omega))
    have := h n (by omega)
    simp only [wSum, wCnt]
    rw [Nat.add_mul]
    cases p n <;> simp <;> omega
theorem on_le {kd : Nat → Int32} {m n : Nat} {A : Nat → Nat → Bool} (hm : m ≤ 6) : ∀ d t, t < 4 ^ m → onN kd m A n d t ≤ mvC kd m ^ d := by
  intro d
  induction d with
  | zero => intro t _; show (if A n t then 1 else 0) ≤ _; rw [Nat.pow_zero]; split <;> omega
  | succ d ih =>
    intro t ht
    have h1 := ih t ht
    have h2 : wSum (fun j => if decide (0 < sStep (kd j)) then onN kd m A n d (sMv t j (sStep (kd j))) else 0) m ≤ wCnt (fun j => decide (0 < sStep (kd j))) m * mvC kd m ^ d := wSum_ifb (fun j hj => ih _ (sMv_lt ht hj))
    have e : wSum (fun j => if 0 < sStep (kd j) then onN kd m A n d (sMv t j (sStep (kd j))) else 0) m = wSum (fun j => if decide (0 < sStep (kd j)) then onN kd m A n d (sMv t j (sStep (kd j))) else 0) m := wSum_cong (fun j _ => by simp)
    have e3 : mvC kd m ^ (d + 1) = mvC kd m ^ d + wCnt (fun j => decide (0 < sStep (kd j))) m * mvC kd m ^ d := by
      rw [Nat.pow_succ, Nat.mul_comm]
      show (1 + wCnt _ m) * _ = _
      rw [Nat.add_mul, Nat.one_mul]
    show (if A (n - (d + 1)) t then _ else _) ≤ _
    rw [e3]
    split
    · rw [e]; omega
    · omega
theorem ON_le {C : wm_M} {w h rn n d t : Nat} (hn : w * h ≤ 6) (hd : d ≤ 9) (ht : t < 4 ^ (w * h)) : ONn C w h rn n d t ≤ 40353607 := Nat.le_trans (on_le hn d t ht) (pow7 (mvC7 hn) hd)
def lvR (C : wm_M) (w h rn n y t : Nat) : Bool := decide (0 < ONn C w h rn n (n - y) t)
theorem wBits_or {p : Nat → Bool} {n k : Nat} (hk : k < n) : wBits p n ||| 2 ^ k = wBits (fun j => p j || decide (j = k)) n := by
  refine Nat.eq_of_testBit_eq (fun i => ?_)
  rw [Nat.testBit_or, wBits_bit, wBits_bit, Nat.testBit_two_pow]
  by_cases q : i = k
  · subst q; simp [hk]
  · have q2 : ¬ k = i := fun e => q e.symm
    simp [q, q2]
theorem wBits_orI {p q : Nat → Bool} {n k : Nat} (hk : k < n) (hn : n ≤ 32) (h : ∀ j, j < n → q j = (p j || decide (j = k))) : nI (wBits p n) ||| ((1 : Int32) <<< (nI k &&& 31)) = nI (wBits q n) := by
  rw [nI_pow _ (by omega), nI_or, wBits_or hk, wBits_cong h]
/-- when: in some history -/
def smR (C : wm_M) (w h rn n l y t : Nat) : Bool := wAny (fun t2 => lvR C w h rn n y t2 && ctF C w h l t2) t
def alR (C : wm_M) (w h rn n l y t : Nat) : Bool := wAll (fun t2 => !lvR C w h rn n y t2 || ctF C w h l t2) t
def tnR (C : wm_M) (w h rn n y t k : Nat) : Bool := lvR C w h rn n (y - 1) t && (!sFix (C.1 18 k) && lvR C w h rn n y (sMv t k (sStep (C.1 18 k))))
def odS (C : wm_M) (w h rn n y l : Nat) (t : Nat) : Nat := if ctF C w h l t then FWn C w h rn y t * ONn C w h rn n (n - y) t else 0
theorem odS_le {C : wm_M} {w h rn n y l : Nat} (hn : w * h ≤ 6) (hy : y ≤ n) (h9 : n ≤ 9) {k : Nat} (hk : k ≤ 4 ^ (w * h)) : wSum (odS C w h rn n y l) k < 2 ^ 63 := by
  have h4 := p4_le hn
  have h1 : wSum (odS C w h rn n y l) k ≤ k * (40353607 * 40353607) := wSum_le (fun t ht => by
    unfold odS; split
    · exact Nat.mul_le_mul (FW_le hn (by omega) (by omega)) (ON_le hn (by omega) (by omega))
    · omega)
  have h2 : k * (40353607 * 40353607) ≤ 4096 * (40353607 * 40353607) := Nat.mul_le_mul_right _ (by omega)
  omega
theorem wBits_z {p : Nat → Bool} : ∀ {n : Nat}, (∀ i, i < n → p i = false) → wBits p n = 0
  | 0, _ => rfl
  | n + 1, h => by simp only [wBits]; rw [wBits_z (fun i hi => h i (by omega)), h n (by omega)]; rfl
