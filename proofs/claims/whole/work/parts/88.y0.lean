/-! ===== words for the reference ===== -/
theorem inC_w {m : Nat} (hm : m < 2 ^ 30) (r : Int32) : inC r 0 (nI m) = wIn r (m + 1) := by
  by_cases h : r < 0
  · rw [inC_lt h, wIn_neg h]
  · by_cases h2 : r ≤ nI m
    · rw [inC_t h h2, wIn_le hm h h2]
    · rw [inC_gt h2, wIn_gt hm (Int32.not_le.mp h2)]
theorem inC_z {i : Int32} {z : Nat} (hz : z ≤ 100) : inC i 0 (nI z - 1) = wIn i z := by
  cases z with
  | zero =>
    by_cases h : i < 0
    · rw [inC_lt h, wIn_neg h]
    · rw [inC_gt (fun q => h (by
        rw [Int32.le_iff_toInt_le] at q
        rw [Int32.lt_iff_toInt_lt]
        have e1 : (nI 0 - 1).toInt = -1 := by decide
        have e2 : (0 : Int32).toInt = 0 := by decide
        omega)), wIn_ge (by decide) (by
        rw [Int32.lt_iff_toInt_lt] at h
        rw [Int32.le_iff_toInt_le]
        have e1 : (nI 0).toInt = 0 := by decide
        have e2 : (0 : Int32).toInt = 0 := by decide
        omega)]
  | succ z =>
    have e : nI (z + 1) - 1 = nI z := pk_sub (a := z + 1) (b := 1) (by omega)
    rw [e]; exact inC_w (by omega) i
theorem inC_1 {m : Nat} (hm : m < 2 ^ 30) {p : Int32} : inC p 1 (nI m) = true ↔ ¬ (p < 1 ∨ ¬ p ≤ nI m) := by
  unfold inC
  by_cases h : p < 1 <;> by_cases h2 : p ≤ nI m <;> simp [h, h2]
theorem fill_start {M : wm_M} {k a : Nat} {f : Nat → Int32} {v : Int32} (h : M.1 k = f) : M = wIa M k (wFill f a a v) := by rw [wFill_0, ← h, wIa_self]
theorem id_start {M : wm_M} {k : Nat} {f : Nat → Int32} (h : M.1 k = f) : M = wIa M k f := by rw [← h, wIa_self]
theorem wTo_start {M : wm_M} {k : Nat} {f g : Nat → Int32} (h : M.1 k = g) : M = wIa M k (wTo f g 0) := by rw [wTo_0, ← h, wIa_self]
theorem clr_all : ∀ s, s < 256 → ¬ s = 0 → nI s &&& (nI s - 1) = nI (s &&& (s - 1)) ∧ s &&& (s - 1) < s ∧ pcN (s &&& (s - 1)) + 1 = pcN s := by decide +kernel
theorem lg_le {a b : Nat} (ha : a < 2 ^ 62) (hb : b < 2 ^ 62) : 0 < lg_cmp (lN a) (lN b) ↔ b < a := by
  unfold lg_cmp
  have h1 : lN a > lN b ↔ b < a := pk_lLT (by omega) (by omega)
  have h3 : lN a = lN b ↔ a = b := pk_lEQ (by omega) (by omega)
  by_cases q : b < a
  · rw [if_pos (h1.mpr q)]; simp [q]
  · rw [if_neg (fun e => q (h1.mp e))]
    by_cases q2 : a = b
    · rw [if_pos (h3.mpr q2)]; simp [q]
    · rw [if_neg (fun e => q2 (h3.mp e))]; simp [q]
/-- n places from i on, as the reference looks at them -/
theorem cp_hld {i n : Int32} {z : Nat} (hz : z ≤ 60) (hi : ¬ i < 0) (hn : ¬ n < 0) : hldB i n z = !decide (0 < lg_cmp (i.toInt64 + n.toInt64) (nI z).toInt64) := by
  obtain ⟨a, ha, rfl⟩ := nI_of hi
  obtain ⟨b, hb, rfl⟩ := nI_of hn
  rw [nI_l ha, nI_l hb, nI_l (by omega), lN_add]
  have h := lg_le (a := a + b) (b := z) (by omega) (by omega)
  unfold hldB
  rw [decide_eq_false (nI_pos ha), Bool.not_false, Bool.true_and]
  have e := sub_toInt (z := z) (i := nI a) (by omega) (nI_pos ha)
  rw [nI_toInt ha] at e
  have h2 : nI b ≤ nI z - nI a ↔ a + b ≤ z := by rw [Int32.le_iff_toInt_le, e, nI_toInt hb]; omega
  by_cases q : a + b ≤ z
  · rw [decide_eq_true (h2.mpr q), decide_eq_false (fun c => by have := h.mp c; omega)]; rfl
  · rw [decide_eq_false (fun c => q (h2.mp c)), decide_eq_true (h.mpr (by omega))]; rfl
/-- places copied within a row of ints -/
def cpF (f : Nat → Int32) (src dst n : Nat) : Nat → Int32 := fun p => if dst ≤ p ∧ p < dst + n then f (src + (p - dst)) else f p
theorem cpF_0 (f : Nat → Int32) (src dst : Nat) : cpF f src dst 0 = f := by funext p; unfold cpF; rw [if_neg (by omega)]
theorem cpF_s {f : Nat → Int32} {src dst n : Nat} {v : Int32} (h : v = f (src + n)) : upd (cpF f src dst n) (dst + n) v = cpF f src dst (n + 1) := by
  funext p
  by_cases q : p = dst + n
  · subst q; rw [upd_s, h]; unfold cpF; rw [if_pos (by omega), show dst + n - dst = n by omega]
  · rw [upd_n q]; unfold cpF
    by_cases q2 : dst ≤ p ∧ p < dst + n
    · rw [if_pos q2, if_pos (by omega)]
    · rw [if_neg q2, if_neg (by omega)]
theorem nar32 : vp_nar .byte 32 = 32 := by decide
theorem nar_b (v : Int32) : vp_nar .byte v.toInt8.toInt32 = v.toInt8.toInt32 := by
  show (v.toInt8.toInt32).toInt8.toInt32 = _
  rw [Int8.toInt8_toInt32]
