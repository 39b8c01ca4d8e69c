theorem nI_dec1 {i : Nat} (h : 1 ≤ i) : nI i + Int32.ofInt (-1) = nI (i - 1) := by
  have := nI_dec (i - 1)
  rw [show i - 1 + 1 = i by omega] at this; exact this
/-- what is won ahead of the second year of n, for the first one -/
def nrF (M : wm_M) (w h l n : Nat) : Nat → Bool := wnI (M.1 18) (w * h) (sb (M.2.1 (38 + 2 * l + 1))) n (n - 1)
def opP (M : wm_M) (w h l n s k : Nat) : Bool := decide (0 < sStep (M.1 18 k)) && nrF M w h l n (sMv s k (sStep (M.1 18 k)))
def opn (M : wm_M) (w h l n s : Nat) : Int32 := if n = 0 then -9 else wFind (opP M w h l n s) (w * h)
def won (M : wm_M) (w h l n s : Nat) : Bool := !decide (opn M w h l n s = -9) || nrF M w h l n s
def WnP (M : wm_M) (w h l n s : Nat) (v : Option Value) (N : wm_M) : Prop := v = some (.int (wB (won M w h l n s))) ∧ Fr [46] [50, 52] M N ∧ N.1 46 1 = opn M w h l n s
theorem won_0 {M : wm_M} {w h l n s : Nat} (hn : n = 0) : won M w h l n s = wnI (M.1 18) (w * h) (sb (M.2.1 (38 + 2 * l + 1))) 0 0 s := by
  subst hn; rfl
theorem opn_some {M : wm_M} {w h l n s k : Nat} (hn : ¬ n = 0) (hk : k < w * h) (h1 : 0 < sStep (M.1 18 k)) (h2 : nrF M w h l n (sMv s k (sStep (M.1 18 k))) = true) (hno : ∀ j, j < k → opP M w h l n s j = false) : opn M w h l n s = nI k := by
  unfold opn; rw [if_neg hn]
  exact wFind_some hk (by unfold opP; rw [decide_eq_true h1, h2]; rfl) hno
