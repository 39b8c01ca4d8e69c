def stnA (v : Nat) : Int32 := if v = 3 then 2 else if v = 0 then 0 else 1
theorem cSt_w {M : wm_M} {n k i : Nat} (h : cStn M n) (hk : k < n) (hi : i < 4) : M.1 19 (4 * k + i) = -1 ∨ (M.1 19 (4 * k + i) = nI (M.1 19 (4 * k + i)).toNatClampNeg ∧ (M.1 19 (4 * k + i)).toNatClampNeg < 8) := by
  rcases h.2.2 k hk i hi with ⟨-, -, q⟩ | ⟨-, x, hx, q⟩
  · exact Or.inl q
  · right; rw [q, nI_clamp (by omega)]; exact ⟨rfl, hx⟩
theorem msk : ∀ sd, sd < 4 → (15 : Int32) &&& (((1 : Int32) <<< (nI sd &&& 31)) ^^^ -1) = nI (15 - 2 ^ sd) := by decide +kernel
