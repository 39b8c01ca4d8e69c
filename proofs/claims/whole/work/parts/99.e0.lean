/-! ===== the memory behind both constructors ===== -/
def m0I (k j : Nat) : Int32 := if k = 9 ∨ k = 16 ∨ k = 35 ∨ k = 64 ∨ k = 95 ∨ k = 98 ∨ k = 101 ∨ k = 109 ∨ k = 112 then -1 else if j = 0 then (if k = 1 then 60 else if k = 10 then 80 else if k = 29 ∨ k = 58 then 3 else 0) else if k = 46 ∧ j = 1 then -9 else 0
def m0J (k j : Nat) : Int64 := if (k = 92 ∧ j = 2) ∨ (k = 96 ∧ j = 4) then 1 else 0
def m0 : wm_M := (m0I, m0J, fun d => decide (d % 2 = 1))
theorem sb_0 {B : Nat → Int64} {s : Nat} (h : ∀ i, B i = 0) : sb B s = false := by
  unfold sb lb; rw [h]; simp
theorem m0_ci : CI m0 0 0 0 0 0 := by
  refine ⟨⟨⟨rfl, rfl, by decide, by decide⟩, Or.inl ⟨rfl, rfl⟩⟩, ⟨fun k hk => absurd hk (Nat.not_lt_zero _), fun k hk => absurd hk (Nat.not_lt_zero _), fun k hk => absurd hk (Nat.not_lt_zero _)⟩, ⟨rfl, rfl, by decide, hd_0 _ (by decide)⟩, fun r _ => Or.inl rfl, fun r _ => Or.inl rfl, fun r _ => Or.inl rfl, fun k _ => Or.inl rfl, ⟨rfl, by decide, fun e he => absurd he (Nat.not_lt_zero _)⟩, ⟨rfl, rfl, rfl, rfl⟩, fun l hl s hs => ?_, rfl⟩
  have e1 : m0.1 35 l = -1 := rfl
  unfold stL
  have e2 : sb (m0.2.1 (38 + 2 * l + 1)) s = false := sb_0 (fun i => show m0J (38 + 2 * l + 1) i = 0 from if_neg (by omega))
  rw [decide_eq_true e1, e2]; rfl
theorem m1_ne {z : Nat} (h : z < 2 ^ 31) : ¬ (-1 : Int32) = nI z := fun e => nI_nem1 h e.symm
theorem m0_xr : XR m0 m0 0 0 0 0 0 := by
  refine ⟨⟨rfl, fun f _ => rfl, rfl, rfl, rfl⟩, ⟨fun r _ => rfl, fun r _ z hz e => absurd e (m1_ne (by omega))⟩, ⟨fun r _ => rfl, fun r _ z hz e => absurd e (m1_ne (by omega))⟩, ⟨rfl, rfl, rfl, fun k hk => absurd hk (Nat.not_lt_zero _), fun k hk => absurd hk (Nat.not_lt_zero _), fun k hk => absurd hk (Nat.not_lt_zero _), fun k hk => absurd hk (Nat.not_lt_zero _)⟩, ⟨fun k hk => absurd hk (Nat.not_lt_zero _), rfl⟩, ⟨fun r _ => rfl, fun r _ z hz e => absurd e (m1_ne (by omega))⟩, fun k _ => Or.inl ⟨rfl, rfl⟩, ⟨rfl, fun e he => absurd he (Nat.not_lt_zero _)⟩, rfl⟩
theorem m0_rel : RelA m0 := ⟨0, 0, 0, 0, 0, m0_ci, m0_xr⟩
