/-- the draft's stone k is the item at p -/
def Dr (N : wm_M) (ch : Nat → Int32) (k p : Nat) : Prop := N.1 23 k = kindC (ch p) ∧ (∀ i, i < 4 → N.1 24 (4 * k + i) = if kindC (ch p) = 4 ∧ ch (p + 5) - 48 = nI i then -1 else ch (p + 1 + i) - 97) ∧ N.1 25 k = (if isOfB (kindC (ch p)) 1 then ch (p + 5) - 48 else -9) ∧ (kindC (ch p) = 1 → N.1 26 k = ch (p + 6) - 97)
theorem wI_at {M : wm_M} {k j : Nat} {x : Int32} : (wI M k j x).1 k j = x := by unfold wI; rw [wIa_s, upd_s]
theorem wI_ne {M : wm_M} {k j k' j' : Nat} {x : Int32} (h : ¬ (k' = k ∧ j' = j)) : (wI M k j x).1 k' j' = M.1 k' j' := by
  unfold wI
  by_cases hk : k' = k
  · subst hk; rw [wIa_s, upd_n (fun e => h ⟨rfl, e⟩)]
  · rw [wIa_n hk]
theorem wI_c {M : wm_M} {k j k' : Nat} {x : Int32} (h : k' ≠ k) : (wI M k j x).1 k' = M.1 k' := wIa_n h
theorem Sc.w {M : wm_M} {k j : Nat} {x : Int32} (h : 22 ≤ k ∧ k ≤ 27) : Sc M (wI M k j x) := Sc.I h
theorem RdAt.sc {M N : wm_M} {tx sz p q : Nat} (h : RdAt M tx sz p) (hs : Sc M N) (h2 : N.1 27 2 = M.1 27 2) (h3 : N.1 27 3 = nI q) (hq : q < 200) : RdAt N tx sz q :=
  ⟨h.1, h2.trans h.2.1, h3, by rw [hs.1 16 (by omega)]; exact h.2.2.2.1, h.2.2.2.2.1, hq⟩
theorem wdN_le (ch : Nat → Int32) : ∀ n p, wdN ch n p ≤ n
  | 0, _ => Nat.le_refl _
  | n + 1, p => by simp only [wdN]; split; have := wdN_le ch n (p + 1); omega; omega
/-- a sign between '0' and '3' -/
theorem fig_of {c : Int32} (h : inC c 48 51 = true) : ∃ j, j < 4 ∧ c - 48 = nI j := by
  simp only [inC, Bool.and_eq_true, Bool.not_eq_true', decide_eq_false_iff_not, decide_eq_true_eq] at h
  obtain ⟨h1, h2⟩ := h
  rw [Int32.lt_iff_toInt_lt] at h1
  rw [Int32.le_iff_toInt_le] at h2
  have e48 : (48 : Int32).toInt = 48 := by decide
  have e51 : (51 : Int32).toInt = 51 := by decide
  rw [e48] at h1; rw [e51] at h2
  have hc : c = nI c.toInt.toNat := by
    apply Int32.toInt_inj.mp
    rw [nI_toInt (by omega)]; omega
  refine ⟨c.toInt.toNat - 48, by omega, ?_⟩
  have h48 : (48 : Int32) = nI 48 := rfl
  rw [hc, h48, pk_sub (by omega), ← hc]
