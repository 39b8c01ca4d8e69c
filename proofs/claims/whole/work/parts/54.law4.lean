/-- what joinStreet comes to -/
def JsP (M : wm_M) (w h l z st e : Nat) (v : Option Value) (N : wm_M) : Prop := v = none ∧ Fr [37] [38 + 2 * l + 1] M N ∧ ∀ s, s < 4096 → sb (N.2.1 (38 + 2 * l + 1)) s = (sb (M.2.1 (38 + 2 * l + 1)) s || (prodB (hadN (M.1 18) (w * h)) s && wAny (fun b => matchB w h (M.1 18) (M.1 19) (M.1 (31 + l)) z s st e b) (sLen w h st + 1 - z)))
def RbP (M : wm_M) (w h l z : Nat) (v : Option Value) (N : wm_M) : Prop := v = none ∧ Fr [37] [38 + 2 * l + 1] M N ∧ ∀ s, s < 4096 → sb (N.2.1 (38 + 2 * l + 1)) s = stS w h (M.1 18) (M.1 19) (M.1 (31 + l)) z s
/-- the law l of the memory stands in state s, which can be had; a missing one never -/
def stL (M : wm_M) (w h l s : Nat) : Bool := !decide (M.1 35 l = -1) && stS w h (M.1 18) (M.1 19) (M.1 (31 + l)) (M.1 35 l).toNatClampNeg s
theorem nI_nem1 {z : Nat} (hz : z < 2 ^ 31) : ¬ nI z = -1 := fun e => by
  have h1 := congrArg Int32.toInt e
  rw [nI_toInt hz] at h1
  have : (-1 : Int32).toInt = -1 := by decide
  omega
theorem stL_z {M : wm_M} {w h l z s : Nat} (hL : LZ M l z) : stL M w h l s = stS w h (M.1 18) (M.1 19) (M.1 (31 + l)) z s := by
  unfold stL
  rw [hL.2.1, nI_clamp (by have := hL.2.2.2; omega), decide_eq_false (nI_nem1 (by have := hL.2.2.2; omega))]; rfl
theorem stL_n {M : wm_M} {w h l s : Nat} (h9 : M.1 35 l = -1) : stL M w h l s = false := by unfold stL; rw [h9]; rfl
theorem stL_fr {M N : wm_M} {w h l s : Nat} (h18 : N.1 18 = M.1 18) (h19 : N.1 19 = M.1 19) (h31 : N.1 (31 + l) = M.1 (31 + l)) (h35 : N.1 35 = M.1 35) : stL N w h l s = stL M w h l s := by
  unfold stL; rw [h18, h19, h31, h35]
def RaP (M : wm_M) (w h : Nat) (v : Option Value) (N : wm_M) : Prop := v = none ∧ Fr [37] [39, 41, 43, 45] M N ∧ ∀ l, l < 4 → ∀ s, s < 4096 → sb (N.2.1 (38 + 2 * l + 1)) s = stL M w h l s
/-- a law is missing, or has 1 to 3 words -/
def LawOk (M : wm_M) : Prop := ∀ l, l < 4 → M.1 35 l = -1 ∨ ∃ z, LZ M l z
theorem wI_back {M N : wm_M} {k p : Nat} (h : ∀ j, j ≠ p → N.1 k j = M.1 k j) : (wI N k p (M.1 k p)).1 k = M.1 k := by
  unfold wI; rw [wIa_s]; funext j
  by_cases hj : j = p
  · subst hj; exact upd_s
  · rw [upd_n hj]; exact h j hj
/-- word x tried at place p: the law l can be had -/
def mdP (M : wm_M) (w h l z s p : Nat) (x : Nat) : Bool := wAny (fun i => decide (M.1 (31 + l) i = nI x)) z && !decide (lyT w h (M.1 18) (upd (M.1 19) p (nI x)) (M.1 (31 + l)) z s (w + h) = -9)
def MwP (M : wm_M) (w h l z s p : Nat) (v : Option Value) (N : wm_M) : Prop := v = some (.int (wFind (mdP M w h l z s p) 8)) ∧ Fr [28] [] M N ∧ ∀ x, x < 8 → wFind (mdP M w h l z s p) 8 = nI x → N.1 28 2 = lyT w h (M.1 18) (upd (M.1 19) p (nI x)) (M.1 (31 + l)) z s (w + h)
theorem nin1 {c a : Nat} (h : c ≠ a) : c ∉ [a] := by simpa using h
theorem nin2 {c a b : Nat} (h : c ≠ a) (h2 : c ≠ b) : c ∉ [a, b] := by simp [h, h2]
