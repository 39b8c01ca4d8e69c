/-! ===== wants: what can be had, contests ===== -/
theorem sb_join {B C : Nat → Int64} {st q s : Nat} (hst : st < 6) (hq : q < 4) (hq1 : 1 ≤ q) (hs : s < 4096) : sb (wTo (fun i => B i ||| mvB C st q i) B 64) s = (sb B s || sb C (sMv s st (4 - q))) := by
  rw [sb_to hs, lb_or, sb_moved hst hq hq1 hs]; rfl
theorem sb_meetm {B C : Nat → Int64} {st q s : Nat} (hst : st < 6) (hq : q < 4) (hq1 : 1 ≤ q) (hs : s < 4096) : sb (wTo (fun i => B i &&& mvB C st q i) B 64) s = (sb B s && sb C (sMv s st (4 - q))) := by
  rw [sb_to hs, lb_and, sb_moved hst hq hq1 hs]; rfl
theorem sb_meet {B C : Nat → Int64} {s : Nat} (hs : s < 4096) : sb (wTo (fun i => B i &&& C i) B 64) s = (sb B s && sb C s) := by
  rw [sb_to hs, lb_and]; rfl
theorem sb_only {B : Nat → Int64} {x s : Nat} (hx : x < 4096) (hs : s < 4096) : sb (vp_updL (wFill B 0 64 0) (x / 64) ((1 : Int64) <<< ((nI (x % 64)).toInt64 &&& 63))) s = decide (s = x) := by
  unfold sb vp_updL
  by_cases h : s / 64 = x / 64
  · rw [if_pos h, lb_shl (Nat.mod_lt _ (by decide)) _ (Nat.mod_lt _ (by decide)), lb_1]
    by_cases h2 : s = x
    · subst h2; simp
    · rw [decide_eq_false h2]
      by_cases h3 : x % 64 ≤ s % 64
      · rw [decide_eq_false (by omega : ¬ s % 64 - x % 64 = 0)]; simp
      · rw [decide_eq_false h3]; simp
  · rw [if_neg h, wFill_in (Nat.zero_le _) (sb_lt hs), lb_0, decide_eq_false (fun e => h (by rw [e]))]
/-- the states that can be had in which the laws of a set stand -/
def goalB (M : wm_M) (w h set s : Nat) : Bool := prodB (hadN (M.1 18) (w * h)) s && wAll (fun l => !set.testBit l || sb (M.2.1 (38 + 2 * l + 1)) s) 4
/-- the states to which n turns or fewer lead from s0 -/
def blB (kd : Nat → Int32) (m s0 : Nat) : Nat → Nat → Bool
  | 0, s => decide (s = s0)
  | n + 1, s => blB kd m s0 n s || wAny (fun k => decide (0 < sStep (kd k)) && blB kd m s0 n (sMv s k (4 - sStep (kd k)))) m
def yrs (M : wm_M) (w h s0 set : Nat) : Int32 := wFind (fun n => wAny (fun s => blB (M.1 18) (w * h) s0 n s && goalB M w h set s) 4096) (wSum (fun k => sMost (M.1 18 k)) (w * h) + 1)
def LyP (M : wm_M) (w h s0 set : Nat) (v : Option Value) (N : wm_M) : Prop := v = some (.int (yrs M w h s0 set)) ∧ Fr [46, 53] [48, 50, 52] M N ∧ ∀ n, n ≤ 18 → yrs M w h s0 set = nI n → N.1 46 0 = wFind (fun s => blB (M.1 18) (w * h) s0 n s && goalB M w h set s) 4096
theorem wFind_any {p : Nat → Bool} {n : Nat} (h : ¬ wFind p n = -9) : wAny p n = true := by
  rcases wFind_cases p n with ⟨h1, -⟩ | ⟨i, hi, -, h1, -⟩
  · exact absurd h1 h
  · exact wAny_iff.mpr ⟨i, hi, h1⟩
theorem wFind_nany {p : Nat → Bool} {n : Nat} (h : wFind p n = -9) (hn : n < 2 ^ 31) : wAny p n = false := by
  rcases wFind_cases p n with ⟨-, h1⟩ | ⟨i, hi, e, h1, -⟩
  · exact Bool.eq_false_iff.mpr (fun q => by obtain ⟨i, hi, hp⟩ := wAny_iff.mp q; rw [h1 i hi] at hp; cases hp)
  · rw [e] at h; exact absurd h (nI_ne9 (by omega))
/-- one year of a contest, seen from behind it -/
def wnB (kd : Nat → Int32) (m : Nat) (f : Nat → Bool) (first : Bool) (s : Nat) : Bool := if first then f s || wAny (fun k => decide (0 < sStep (kd k)) && f (sMv s k (sStep (kd k)))) m else f s && wAll (fun k => !decide (0 < sStep (kd k)) || f (sMv s k (sStep (kd k)))) m
def wnI (kd : Nat → Int32) (m : Nat) (f : Nat → Bool) (n : Nat) : Nat → Nat → Bool
  | 0 => f
  | d + 1 => wnB kd m (wnI kd m f n d) (decide ((n - d) % 2 = 1))
def lN3 (c : Nat) (I : List Nat) : Prop := c ∉ I
theorem nin3 {c a b d : Nat} (h : c ≠ a) (h2 : c ≠ b) (h3 : c ≠ d) : c ∉ [a, b, d] := by simp [h, h2, h3]
theorem sMv_4 {s k m : Nat} (hs : s < 4096) (hk : k < 6) : sMv s k m < 4096 := sMv_lt (n := 6) hs hk
theorem had_at {M : wm_M} {kd g : Nat → Int32} {a n j : Nat} (hj : j < 6) : (wIa M a (wTo (tHad kd n) g 6)).1 a j = nI (hadN kd n j) := by
  have e9 : (wIa M a (wTo (tHad kd n) g 6)).1 a j = wTo (tHad kd n) g 6 j := congrFun wIa_s j
  exact e9.trans (by rw [wTo_full hj, hadN_t])
