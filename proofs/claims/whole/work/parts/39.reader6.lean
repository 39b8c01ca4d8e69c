theorem inC_of {c : Int32} {a b : Nat} (hb : b < 2 ^ 30) (hab : a ≤ b) (h : inC c (nI a) (nI b) = true) : ∃ j, j ≤ b - a ∧ c - nI a = nI j ∧ c = nI (a + j) := by
  simp only [inC, Bool.and_eq_true, Bool.not_eq_true', decide_eq_false_iff_not, decide_eq_true_eq] at h
  obtain ⟨h1, h2⟩ := h
  rw [Int32.lt_iff_toInt_lt, nI_toInt (by omega)] at h1
  rw [Int32.le_iff_toInt_le, nI_toInt (by omega)] at h2
  have hc : c = nI c.toInt.toNat := by
    apply Int32.toInt_inj.mp
    rw [nI_toInt (by omega)]; omega
  refine ⟨c.toInt.toNat - a, by omega, ?_, ?_⟩
  · rw [hc, pk_sub (by omega), ← hc]
  · rw [show a + (c.toInt.toNat - a) = c.toInt.toNat by omega]; exact hc
theorem gW_of {ch : Nat → Int32} {sz : Nat} (h : inC (ch (skp ch sz 0 + 1)) 49 51 = true) : ch (skp ch sz 0 + 1) - 49 + 1 = nI (gW ch sz) ∧ 1 ≤ gW ch sz ∧ gW ch sz ≤ 3 := by
  obtain ⟨j, h1, h2, -⟩ := inC_of (a := 49) (b := 51) (by decide) (by decide) h
  have h2' : ch (skp ch sz 0 + 1) - 49 = nI j := h2
  unfold gW
  rw [h2', nI_clamp (by omega), nI_1]
  exact ⟨rfl, by omega, by omega⟩
theorem gH_of {ch : Nat → Int32} {sz : Nat} (h : inC (ch (skp ch sz 0 + 2)) 49 50 = true) : ch (skp ch sz 0 + 2) - 49 + 1 = nI (gH ch sz) ∧ 1 ≤ gH ch sz ∧ gH ch sz ≤ 2 := by
  obtain ⟨j, h1, h2, -⟩ := inC_of (a := 49) (b := 50) (by decide) (by decide) h
  have h2' : ch (skp ch sz 0 + 2) - 49 = nI j := h2
  unfold gH
  rw [h2', nI_clamp (by omega), nI_1]
  exact ⟨rfl, by omega, by omega⟩
/-- the grid's item is good -/
def gOk (ch : Nat → Int32) (sz : Nat) : Prop := inC (ch (skp ch sz 0)) 103 103 = true ∧ inC (ch (skp ch sz 0 + 1)) 49 51 = true ∧ inC (ch (skp ch sz 0 + 2)) 49 50 = true
/-- what the reading of the size comes to -/
def RzP (M : wm_M) (tx sz : Nat) (v : Option Value) (N : wm_M) : Prop := ∃ (q : Nat) (ok : Bool), v = some (.int (wB ok)) ∧ Sc M N ∧ N.1 27 2 = M.1 27 2 ∧ N.1 27 3 = nI q ∧ (ok = true → q = skp (chF M tx sz) sz 0 + 3 ∧ gOk (chF M tx sz) sz ∧ N.1 22 0 = nI (gW (chF M tx sz) sz) ∧ N.1 22 1 = nI (gH (chF M tx sz) sz)) ∧ (ok = false → tFault (chF M tx sz) sz = nI q ∧ q < 200)
theorem nI_ne9 {p : Nat} (h : p < 2 ^ 31) : ¬ nI p = -9 := fun e => by
  have h1 := congrArg Int32.toInt e
  rw [nI_toInt h] at h1
  have : (-9 : Int32).toInt = -9 := by decide
  omega
/-- what a town's text comes to -/
def FtP (M : wm_M) (tx sz : Nat) (v : Option Value) (N : wm_M) : Prop := v = some (.int (tFault (chF M tx sz) sz)) ∧ Sc M N ∧ (tFault (chF M tx sz) sz = -9 → gOk (chF M tx sz) sz ∧ N.1 22 0 = nI (gW (chF M tx sz) sz) ∧ N.1 22 1 = nI (gH (chF M tx sz) sz) ∧ ∀ k, k < gW (chF M tx sz) sz * gH (chF M tx sz) sz → Dr N (chF M tx sz) k (stAt (chF M tx sz) sz k (skp (chF M tx sz) sz 0 + 3)))
theorem tFault_ok {ch : Nat → Int32} {sz : Nat} (h : gOk ch sz) : tFault ch sz = prest ch sz (gW ch sz * gH ch sz) (skp ch sz 0 + 3) := by
  unfold tFault
  rw [if_neg (by simp [h.1]), if_neg (by simp [h.2.1]), if_neg (by simp [h.2.2])]
