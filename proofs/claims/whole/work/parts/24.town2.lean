theorem sMv_i {s k m : Nat} (hs : s < 4096) (hk : k < 6) : nI s + ((nI ((sQ s k + m) % 4) - nI (sQ s k)) <<< (nI (2 * k) &&& 31)) = nI (sMv s k m) := by
  have hq := sQ_lt s k
  have hq2 := sQ_le s k
  have hb : (sQ s k + m) % 4 < 4 := Nat.mod_lt _ (by decide)
  have key : ∀ a, a < 4 → ∀ b, b < 4 → ∀ k, k < 6 → (nI b - nI a) <<< (nI (2 * k) &&& 31) = nI (b * 4 ^ k) - nI (a * 4 ^ k) := by decide +kernel
  rw [key _ hq _ hb k hk]
  unfold sMv
  generalize (sQ s k + m) % 4 * 4 ^ k = B
  generalize sQ s k * 4 ^ k = A at hq2 ⊢
  rw [← nI_add, ← pk_sub hq2]
  apply Int32.toBitVec_inj.mp
  simp only [Int32.toBitVec_add, Int32.toBitVec_sub]
  generalize (nI s).toBitVec = x; generalize (nI B).toBitVec = y; generalize (nI A).toBitVec = z
  apply BitVec.eq_of_toNat_eq
  simp only [BitVec.toNat_add, BitVec.toNat_sub]
  have := x.isLt; have := y.isLt; have := z.isLt
  omega
theorem nI_sub3 : ∀ {a b : Nat}, a < 4 → b < 4 → (nI a - nI b) &&& 3 = nI ((a + 4 - b) % 4) := by
  have key : ∀ a, a < 4 → ∀ b, b < 4 → (nI a - nI b) &&& 3 = nI ((a + 4 - b) % 4) := by decide +kernel
  intro a b ha hb; exact key a ha b hb
