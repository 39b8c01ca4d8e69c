/-! ===== what is read: levels, turns ===== -/
def minF (f : Nat → Nat) : Nat → Nat
  | 0 => 3
  | n + 1 => min (minF f n) (f n)
def maxF (f : Nat → Nat) : Nat → Nat
  | 0 => 0
  | n + 1 => max (maxF f n) (f n)
theorem minF_le (f : Nat → Nat) : ∀ n, minF f n ≤ 3
  | 0 => Nat.le_refl _
  | n + 1 => Nat.le_trans (Nat.min_le_left _ _) (minF_le f n)
theorem maxF_le {f : Nat → Nat} {c : Nat} : ∀ {n}, (∀ i, i < n → f i ≤ c) → maxF f n ≤ c
  | 0, _ => Nat.zero_le _
  | n + 1, h => Nat.max_le.mpr ⟨maxF_le (fun i hi => h i (by omega)), h n (by omega)⟩
theorem minF_ge {f : Nat → Nat} {c : Nat} (hc : c ≤ 3) : ∀ {n}, c ≤ minF f n ↔ ∀ i, i < n → c ≤ f i
  | 0 => ⟨fun _ i hi => absurd hi (Nat.not_lt_zero _), fun _ => hc⟩
  | n + 1 => by
    simp only [minF]
    rw [Nat.le_min, minF_ge hc]
    constructor
    · intro h i hi
      rcases Nat.lt_or_eq_of_le (Nat.le_of_lt_succ hi) with q | q
      · exact h.1 i q
      · subst q; exact h.2
    · intro h; exact ⟨fun i hi => h i (by omega), h n (by omega)⟩
theorem maxF_ge {f : Nat → Nat} {c : Nat} (hc : 0 < c) : ∀ {n}, c ≤ maxF f n ↔ ∃ i, i < n ∧ c ≤ f i
  | 0 => ⟨fun h => absurd h (Nat.not_le.mpr hc), fun ⟨i, hi, _⟩ => absurd hi (Nat.not_lt_zero _)⟩
  | n + 1 => by
    have ih := maxF_ge (f := f) hc (n := n)
    simp only [maxF]
    constructor
    · intro h
      by_cases h2 : c ≤ f n
      · exact ⟨n, Nat.lt_succ_self n, h2⟩
      · obtain ⟨i, h3, h4⟩ := ih.mp (by omega)
        exact ⟨i, Nat.lt_succ_of_lt h3, h4⟩
    · rintro ⟨i, h1, h2⟩
      rcases Nat.lt_or_eq_of_le (Nat.le_of_lt_succ h1) with q | q
      · have := ih.mpr ⟨i, q, h2⟩; omega
      · subst q; omega
theorem maxF_cong {f g : Nat → Nat} : ∀ {n}, (∀ i, i < n → f i = g i) → maxF f n = maxF g n
  | 0, _ => rfl
  | n + 1, h => by simp only [maxF]; rw [maxF_cong (fun i hi => h i (by omega)), h n (by omega)]
theorem minF_cong {f g : Nat → Nat} : ∀ {n}, (∀ i, i < n → f i = g i) → minF f n = minF g n
  | 0, _ => rfl
  | n + 1, h => by simp only [minF]; rw [minF_cong (fun i hi => h i (by omega)), h n (by omega)]
def wordLv (kd wd sd ot : Nat → Int32) (k side : Nat) (word : Int32) : Nat :=
  if sShow kd wd k side = word then (if sd k = nI side then 2 else 3) else if sd k = nI side ∧ kd k = 1 ∧ ot k = word then 1 else 0
theorem wordLv_le (kd wd sd ot : Nat → Int32) (k side : Nat) (word : Int32) : wordLv kd wd sd ot k side word ≤ 3 := by
  unfold wordLv; split <;> (try split) <;> omega
/-- the side that stone k shows in state s to end e of street st -/
def sSide (h s k st e : Nat) : Nat := (sQ s k + sFst h st e) % 4
def levAt (w h : Nat) (kd wd sd ot lw : Nat → Int32) (z s st e start : Nat) : Nat := minF (fun i => wordLv kd wd sd ot (sAt w h st e (start + i)) (sSide h s (sAt w h st e (start + i)) st e) (lw i)) z
def levIn (w h : Nat) (kd wd sd ot lw : Nat → Int32) (z s st e : Nat) : Nat := maxF (levAt w h kd wd sd ot lw z s st e) (sLen w h st + 1 - z)
def levB (w h : Nat) (kd wd sd ot lw : Nat → Int32) (z s : Nat) : Nat := maxF (fun st => maxF (fun e => levIn w h kd wd sd ot lw z s st e) 2) (w + h)
def levN (w h : Nat) (kd wd sd ot lw : Nat → Int32) (z s : Nat) : Nat := wSum (fun st => wCnt (fun e => decide (2 ≤ levIn w h kd wd sd ot lw z s st e)) 2) (w + h)
theorem levAt_le {w h : Nat} {kd wd sd ot lw : Nat → Int32} {z s st e start : Nat} : levAt w h kd wd sd ot lw z s st e start ≤ 3 := minF_le _ _
theorem levIn_le {w h : Nat} {kd wd sd ot lw : Nat → Int32} {z s st e : Nat} : levIn w h kd wd sd ot lw z s st e ≤ 3 := maxF_le (fun _ _ => levAt_le)
theorem levB_le {w h : Nat} {kd wd sd ot lw : Nat → Int32} {z s : Nat} : levB w h kd wd sd ot lw z s ≤ 3 := maxF_le (fun _ _ => maxF_le (fun _ _ => levIn_le))
theorem nI_min {a b : Nat} (ha : a < 2 ^ 31) (hb : b < 2 ^ 31) : (if nI b < nI a then nI b else nI a) = nI (min a b) := by
  by_cases h : b < a
  · rw [if_pos ((nI_ltI hb ha).mpr h), Nat.min_eq_right (by omega)]
  · rw [if_neg (fun q => h ((nI_ltI hb ha).mp q)), Nat.min_eq_left (by omega)]
theorem nI_max {a b : Nat} (ha : a < 2 ^ 31) (hb : b < 2 ^ 31) : (if nI a < nI b then nI b else nI a) = nI (max a b) := by
  by_cases h : a < b
  · rw [if_pos ((nI_ltI ha hb).mpr h), Nat.max_eq_right (by omega)]
  · rw [if_neg (fun q => h ((nI_ltI ha hb).mp q)), Nat.max_eq_left (by omega)]
theorem ls_iff {a z t : Nat} (ha : a < 2 ^ 29) (hz : z < 2 ^ 29) (ht : t < 2 ^ 29) : nI a - nI z < nI t ↔ a < t + z := by
  rw [Int32.lt_iff_toInt_lt, pk_sub_toInt (by omega) (by omega), nI_toInt (by omega)]; omega
theorem sAt_lt {w h st e i : Nat} (hst : st < w + h) (hi : i < sLen w h st) : sAt w h st e i < w * h := by
  unfold sLen at hi
  unfold sAt
  by_cases h1 : st < h
  · rw [if_pos h1] at hi ⊢
    have h2 : (st + 1) * w ≤ h * w := Nat.mul_le_mul_right _ h1
    rw [Nat.succ_mul] at h2
    rw [Nat.mul_comm w h]
    split <;> omega
  · rw [if_neg h1] at hi ⊢
    split
    · have h2 : (i + 1) * w ≤ h * w := Nat.mul_le_mul_right _ hi
      rw [Nat.succ_mul] at h2
      rw [Nat.mul_comm w h]; omega
    · have h2 : (h - 1 - i + 1) * w ≤ h * w := Nat.mul_le_mul_right _ (by omega)
      rw [Nat.succ_mul] at h2
      rw [Nat.mul_comm w h]; omega
/-- law l has z words -/
def LZ (M : wm_M) (l z : Nat) : Prop := l < 4 ∧ M.1 35 l = nI z ∧ 1 ≤ z ∧ z ≤ 3
/-- the least turns by which stone k shows a word, from side `seen` on -/
def tTo (kd wd : Nat → Int32) (k seen : Nat) (word : Int32) : Int32 := wFind (fun j => decide (sShow kd wd k ((seen + j * sStep (kd k)) % 4) = word)) (sMost (kd k) + 1)
theorem tTo_cases (kd wd : Nat → Int32) (k seen : Nat) (word : Int32) : tTo kd wd k seen word = -9 ∨ ∃ t, t ≤ 3 ∧ tTo kd wd k seen word = nI t := by
  rcases wFind_cases (fun j => decide (sShow kd wd k ((seen + j * sStep (kd k)) % 4) = word)) (sMost (kd k) + 1) with ⟨h, -⟩ | ⟨i, hi, h, -⟩
  · exact Or.inl h
  · exact Or.inr ⟨i, by have := sMost_le (kd k); omega, h⟩
/-- the sum of turns, or NONE -/
def tSum (f : Nat → Int32) (z : Nat) : Int32 := if wAll (fun i => !decide (f i = -9)) z then nI (wSum (fun i => (f i).toNatClampNeg) z) else -9
def tAt (w h : Nat) (kd wd lw : Nat → Int32) (z s st e start : Nat) : Int32 := tSum (fun i => tTo kd wd (sAt w h st e (start + i)) (sSide h s (sAt w h st e (start + i)) st e) (lw i)) z
def lmin (a b : Int32) : Int32 := if b = -9 then a else if a = -9 ∨ b < a then b else a
def fmin (f : Nat → Int32) (acc : Int32) : Nat → Int32
  | 0 => acc
  | n + 1 => lmin (fmin f acc n) (f n)
def lyE (w h : Nat) (kd wd lw : Nat → Int32) (z s st : Nat) (acc : Int32) : Nat → Int32
  | 0 => acc
  | e + 1 => fmin (tAt w h kd wd lw z s st e) (lyE w h kd wd lw z s st acc e) (sLen w h st + 1 - z)
def lyT (w h : Nat) (kd wd lw : Nat → Int32) (z s : Nat) : Nat → Int32
  | 0 => -9
  | st + 1 => lyE w h kd wd lw z s st (lyT w h kd wd lw z s st) 2
