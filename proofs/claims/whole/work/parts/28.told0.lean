theorem eu_next {i w r : Nat} (hw : w < 2 ^ 63) (hr : r < 2 ^ 63) (h : i = 0 ∨ (r ≤ w ∧ w * r * 2 ^ (i - 1) ≤ 2 ^ 126)) : r * (w % r) * 2 ^ (i + 1 - 1) ≤ 2 ^ 126 := by
  have hm : r * (w % r) ≤ 2 ^ 63 * 2 ^ 63 := Nat.mul_le_mul (Nat.le_of_lt hr) (Nat.le_of_lt (Nat.lt_of_le_of_lt (Nat.mod_le _ _) hw))
  rcases h with rfl | ⟨h1, h2⟩
  · simpa using hm
  · have h3 := eu_half h1
    rcases Nat.eq_zero_or_pos i with h0 | h0
    · subst h0; simpa using hm
    · obtain ⟨j, rfl⟩ : ∃ j, i = j + 1 := ⟨i - 1, by omega⟩
      rw [Nat.add_sub_cancel] at h2 ⊢
      have h4 : 2 * (r * (w % r)) * 2 ^ j ≤ w * r * 2 ^ j := Nat.mul_le_mul_right _ h3
      have h5 : r * (w % r) * 2 ^ (j + 1) = 2 * (r * (w % r)) * 2 ^ j := by
        generalize r * (w % r) = X
        rw [Nat.pow_succ, Nat.mul_comm (2 ^ j) 2, ← Nat.mul_assoc, Nat.mul_comm X 2]
      rw [h5]; exact Nat.le_trans h4 h2
theorem lg_cmpP {b : Nat} (h0 : 0 < b) (hb : b < 2 ^ 63) : 0 < lg_cmp (lN b) 0 := by
  have h9 : (0 : Int64) = lN 0 := rfl
  rw [h9]
  unfold lg_cmp
  have h1 := pk_lLT hb (by decide : (0 : Nat) < 2 ^ 63)
  have h2 := pk_lLT (by decide : (0 : Nat) < 2 ^ 63) hb
  have h3 := pk_lEQ hb (by decide : (0 : Nat) < 2 ^ 63)
  have h4 : ¬ lN b < lN 0 := fun q => by have := h1.mp q; omega
  have h5 : lN 0 < lN b := h2.mpr (by omega)
  have h6 : ¬ lN b = lN 0 := fun q => by have := h3.mp q; omega
  simp only [h4, h5, h6, if_false, if_true]
  first | decide | simp
