theorem stEnd_k {ch : Nat → Int32} {q : Nat} (h : kindC (ch q) = -9) : stEnd ch q = (q, false) := by unfold stEnd; rw [if_pos h]
theorem stEnd_w {ch : Nat → Int32} {q : Nat} (h : ¬ kindC (ch q) = -9) (h2 : ¬ wdN ch 4 (q + 1) = 4) : stEnd ch q = (q + 1 + wdN ch 4 (q + 1), false) := by
  have := wdN_le ch 4 (q + 1)
  unfold stEnd; rw [if_neg h, if_pos (by omega)]
theorem stEnd_s {ch : Nat → Int32} {q : Nat} (h : ¬ kindC (ch q) = -9) (h2 : wdN ch 4 (q + 1) = 4) : stEnd ch q = sdEnd ch (kindC (ch q)) (q + 5) := by
  unfold stEnd; rw [if_neg h, if_neg (by omega)]
theorem prest_f {ch : Nat → Int32} {sz j p : Nat} (hj : 0 < j) (h : (stEnd ch (skp ch sz p)).2 = false) : prest ch sz j p = nI (stEnd ch (skp ch sz p)).1 := by
  obtain ⟨i, rfl⟩ : ∃ i, j = i + 1 := ⟨j - 1, by omega⟩
  simp only [prest]; rw [if_neg (by simp [h])]
theorem prest_t {ch : Nat → Int32} {sz j p : Nat} (hj : 0 < j) (h : (stEnd ch (skp ch sz p)).2 = true) : prest ch sz j p = prest ch sz (j - 1) (stEnd ch (skp ch sz p)).1 := by
  obtain ⟨i, rfl⟩ : ∃ i, j = i + 1 := ⟨j - 1, by omega⟩
  simp only [prest, Nat.add_sub_cancel]; rw [if_pos h]
theorem kindC_lt {M : wm_M} {tx sz q : Nat} (h : ¬ kindC (chF M tx sz q) = -9) : q < sz := by
  rcases Nat.lt_or_ge q sz with z | z
  · exact z
  · rw [chF_out z] at h; exact absurd (by decide) h
theorem wdN_lt {M : wm_M} {tx sz : Nat} : ∀ {n p : Nat}, wdN (chF M tx sz) n p = n → 0 < n → p + n ≤ sz
  | 0, p, _, h => absurd h (Nat.lt_irrefl 0)
  | n + 1, p, h, _ => by
    simp only [wdN] at h
    by_cases hc : inC (chF M tx sz p) 97 104 = true
    · rw [if_pos hc] at h
      have h1 := inC_lenof (by decide) hc
      rcases Nat.eq_zero_or_pos n with h0 | h0
      · subst h0; omega
      · have := wdN_lt (M := M) (tx := tx) (sz := sz) (n := n) (p := p + 1) (by omega) h0; omega
    · rw [if_neg hc] at h; omega
theorem sdEnd_le {M : wm_M} {tx sz p : Nat} {kc : Int32} (hp : p ≤ sz) : (sdEnd (chF M tx sz) kc p).1 ≤ sz := by
  unfold sdEnd
  split
  · exact hp
  · split
    · exact hp
    · rename_i h1 h2
      have h3 : p < sz := inC_lenof (a := 48) (b := 51) (by decide) (by simpa using h2)
      split
      · exact h3
      · split
        · exact h3
        · rename_i h4
          have h5 : p + 1 < sz := inC_lenof (a := 97) (b := 104) (by decide) (by simpa using h4)
          exact h5
theorem stAt_s (ch : Nat → Int32) (sz : Nat) : ∀ (i p : Nat), stAt ch sz (i + 1) p = stAt ch sz i (stEnd ch (skp ch sz p)).1 := fun _ _ => rfl
theorem Dr.keep {N O : wm_M} {ch : Nat → Int32} {k p : Nat} (h : Dr N ch k p) (h3 : O.1 23 k = N.1 23 k) (h4 : ∀ i, i < 4 → O.1 24 (4 * k + i) = N.1 24 (4 * k + i)) (h5 : O.1 25 k = N.1 25 k) (h6 : O.1 26 k = N.1 26 k) : Dr O ch k p :=
  ⟨h3.trans h.1, fun i hi => (h4 i hi).trans (h.2.1 i hi), h5.trans h.2.2.1, fun q => h6.trans (h.2.2.2 q)⟩
/-- what the reading of the stones comes to -/
def RsP (M : wm_M) (tx sz w h p0 : Nat) (v : Option Value) (N : wm_M) : Prop := ∃ (q : Nat) (ok : Bool), v = some (.int (wB ok)) ∧ Sc M N ∧ N.1 22 = M.1 22 ∧ N.1 27 2 = M.1 27 2 ∧ N.1 27 3 = nI q ∧ (ok = true → q ≤ sz ∧ prest (chF M tx sz) sz (w * h) p0 = prest (chF M tx sz) sz 0 q ∧ ∀ k, k < w * h → Dr N (chF M tx sz) k (stAt (chF M tx sz) sz k p0)) ∧ (ok = false → prest (chF M tx sz) sz (w * h) p0 = nI q ∧ q < 200)
