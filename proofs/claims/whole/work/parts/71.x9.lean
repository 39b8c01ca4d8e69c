/-! ===== for the class's own calls ===== -/
theorem neg_le {n : Int32} {m : Nat} (hm : m < 2 ^ 31) (h : n < 0) : n ≤ nI m := by
  rw [Int32.lt_iff_toInt_lt, Int32.toInt_zero] at h
  rw [Int32.le_iff_toInt_le, nI_toInt hm]; omega
theorem sub_toInt {z : Nat} {i : Int32} (hz : z ≤ 100) (hi : ¬ i < 0) : (nI z - i).toInt = z - i.toInt := by
  obtain ⟨j, hj, rfl⟩ := nI_of hi
  rw [nI_toInt hj]
  have h1 : (nI z - nI j).toInt = ((nI z).toInt - (nI j).toInt).bmod (2 ^ 32) := Int32.toInt_sub _ _
  rw [h1, nI_toInt (by omega), nI_toInt hj]
  rw [Int.bmod_def]
  omega
/-- n places from i on lie within z -/
def hldB (i n : Int32) (z : Nat) : Bool := !decide (i < 0) && decide (n ≤ nI z - i)
theorem holdsN_eq {f : Nat → Int32} {r m z : Nat} {i n : Int32} (hr : r < m) (hm : m < 100) (hz : f r = nI z) : (wIn (nI r) m && (!decide (i < 0) && decide (n ≤ f (nI r).toNatClampNeg - i))) = hldB i n z := by
  rw [wIn_nI (by omega), decide_eq_true hr, Bool.true_and, nI_clamp (by omega), hz]; rfl
theorem hldB_1 {i : Int32} {z : Nat} (hz : z ≤ 100) : hldB i 1 z = wIn i z := by
  unfold hldB wIn
  by_cases h : i < 0
  · have h2 := h
    rw [Int32.lt_iff_toInt_lt, Int32.toInt_zero] at h2
    simp [h]; omega
  · have h2 := h
    rw [Int32.lt_iff_toInt_lt, Int32.toInt_zero] at h2
    have e1 : (1 : Int32).toInt = 1 := by decide
    have h3 : (1 : Int32) ≤ nI z - i ↔ i.toInt < z := by
      rw [Int32.le_iff_toInt_le, sub_toInt hz h, e1]; omega
    simp only [h3, h, decide_false, Bool.not_false, Bool.true_and]
    rw [decide_eq_true (by omega : (0 : Int) ≤ i.toInt), Bool.true_and]
theorem holds_eq {f : Nat → Int32} {r m z : Nat} {i : Int32} (hr : r < m) (hm : m < 100) (hz : f r = nI z) (h9 : z ≤ 100) : (wIn (nI r) m && (!decide (i < 0) && decide (1 ≤ f (nI r).toNatClampNeg - i))) = wIn i z := by
  rw [holdsN_eq hr hm hz, hldB_1 h9]
theorem hldB_t {i n z : Nat} (hz : z ≤ 60) (h : i + n ≤ z) : hldB (nI i) (nI n) z = true := by
  unfold hldB
  rw [pk_sub (by omega), decide_eq_false (nI_pos (by omega)), decide_eq_true ((nI_leI (by omega) (by omega)).mpr (by omega))]; rfl
/-- the sum of a row -/
def mSum (f : Nat → Int32) : Nat → Int64
  | 0 => 0
  | i + 1 => mSum f i + (f i).toInt64
theorem nIL_ne {z : Nat} (h0 : 0 < z) (h : z < 2 ^ 31) : ¬ (nI z).toInt64 = 0 := fun e => by
  have h1 := congrArg Int64.toInt e
  rw [Int32.toInt_toInt64, nI_toInt h, Int64.toInt_zero] at h1; omega
theorem EqR.sc {M N : wm_M} (h : Sc M N) : EqR M N := ⟨fun c hc => h.1 c (by unfold scB at hc; simp at hc; omega), fun c _ => by rw [h.2], fun d _ => by rw [h.2], fun q => by unfold cDyn; rw [h.2]; exact q⟩
