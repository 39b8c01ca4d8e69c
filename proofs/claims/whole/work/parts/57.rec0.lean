/-! ===== engravings ===== -/
/-- engraving e of the memory is of year y, of street st, end en -/
def RE (M : wm_M) (w h e y st en : Nat) : Prop := M.1 55 e = nI y ∧ y ≤ 9 ∧ M.1 56 e = nI st ∧ st < w + h ∧ M.1 57 e = nI en ∧ en < 2 ∧ M.1 64 e = nI (sLen w h st)
def RecOk (M : wm_M) (w h rn : Nat) : Prop := M.1 54 0 = nI rn ∧ rn ≤ 4 ∧ ∀ e, e < rn → ∃ y st en, RE M w h e y st en
def eY (M : wm_M) (e : Nat) : Nat := (M.1 55 e).toNatClampNeg
def eS (M : wm_M) (e : Nat) : Nat := (M.1 56 e).toNatClampNeg
def eE (M : wm_M) (e : Nat) : Nat := (M.1 57 e).toNatClampNeg
theorem RE.eq {M : wm_M} {w h e y st en : Nat} (h9 : RE M w h e y st en) (hwh : w + h < 100) : eY M e = y ∧ eS M e = st ∧ eE M e = en := by
  obtain ⟨h1, h2, h3, h4, h5, h6, h7⟩ := h9
  unfold eY eS eE
  rw [h1, h3, h5, nI_clamp (by omega), nI_clamp (by omega), nI_clamp (by omega)]
  exact ⟨rfl, rfl, rfl⟩
/-- the words of engraving e fit state s -/
def enB (M : wm_M) (w h e s : Nat) : Bool := wAll (fun i => decide (sShow (M.1 18) (M.1 19) (sAt w h (eS M e) (eE M e) i) (sSide h s (sAt w h (eS M e) (eE M e) i) (eS M e) (eE M e)) = M.1 (60 + e) i)) (sLen w h (eS M e))
/-- all engravings of a year among the first n fit state s -/
def fitB (M : wm_M) (w h n year s : Nat) : Bool := wAll (fun e => !decide (eY M e = year) || enB M w h e s) n
/-- .. told for each stone's quarters -/
def enQ (M : wm_M) (w h e k q : Nat) : Bool := wAll (fun i => !decide (sAt w h (eS M e) (eE M e) i = k) || decide (sShow (M.1 18) (M.1 19) k ((q + sFst h (eS M e) (eE M e)) % 4) = M.1 (60 + e) i)) (sLen w h (eS M e))
def fiQ (M : wm_M) (w h n year k q : Nat) : Bool := wAll (fun e => !decide (eY M e = year) || enQ M w h e k q) n
/-- the quarters' bits qb, but those alone that fit -/
def QbIs (N : wm_M) (a : Nat) (qb0 : Nat → Nat) (f : Nat → Nat → Bool) (qb : Nat → Nat) : Prop := (∀ j, j < 6 → N.1 a j = nI (qb j) ∧ qb j < 16) ∧ ∀ k, k < 6 → ∀ q, q < 4 → (qb k).testBit q = ((qb0 k).testBit q && f k q)
def MeP (M : wm_M) (w h e : Nat) (qb0 : Nat → Nat) (v : Option Value) (N : wm_M) : Prop := v = none ∧ Fr [69] [] M N ∧ ∃ qb, QbIs N 69 qb0 (enQ M w h e) qb
def MfP (M : wm_M) (w h n year : Nat) (qb0 : Nat → Nat) (v : Option Value) (N : wm_M) : Prop := v = none ∧ Fr [69] [] M N ∧ ∃ qb, QbIs N 69 qb0 (fiQ M w h n year) qb
theorem enQ_fr {M N : wm_M} (hF : Fr [69] [] M N) {w h e k q : Nat} (he : e < 4) : enQ N w h e k q = enQ M w h e k q := by
  unfold enQ eS eE
  rw [hF.1 56 (nin1 (by decide)), hF.1 57 (nin1 (by decide)), hF.1 18 (nin1 (by decide)), hF.1 19 (nin1 (by decide)), hF.1 (60 + e) (nin1 (by omega))]
/-- the product of what fits is what can be had and fits -/
theorem prod_fit {M : wm_M} {w h n year s : Nat} {qb hn : Nat → Nat} (hw : w * h ≤ 6) (hr : ∀ e, e < n → eS M e < w + h) (hq : ∀ k, k < 6 → ∀ q, q < 4 → (qb k).testBit q = ((hn k).testBit q && fiQ M w h n year k q)) : prodB qb s = (prodB hn s && fitB M w h n year s) := by
  cases h9 : (prodB hn s && fitB M w h n year s)
  · rw [Bool.and_eq_false_iff] at h9
    refine Bool.eq_false_iff.mpr (fun q => ?_)
    have q1 := wAll_iff.mp q
    have q2 : ∀ k, k < 6 → ((hn k).testBit (sQ s k) = true ∧ fiQ M w h n year k (sQ s k) = true) := fun k hk => by
      have := q1 k hk
      rw [hq k hk _ (sQ_lt s k), Bool.and_eq_true] at this
      exact this
    rcases h9 with h9 | h9
    · rw [show prodB hn s = true from wAll_t (fun k hk => (q2 k hk).1)] at h9; cases h9
    · have : fitB M w h n year s = true := wAll_t (fun e he => by
        by_cases hy : eY M e = year
        · have : enB M w h e s = true := wAll_t (fun i hi => by
            have hk : sAt w h (eS M e) (eE M e) i < 6 := Nat.lt_of_lt_of_le (sAt_lt (hr e he) hi) hw
            have h2 := wAll_iff.mp (q2 _ hk).2 e he
            simp only [hy, decide_true, Bool.not_true, Bool.false_or] at h2
            have h3 := wAll_iff.mp h2 i hi
            simp only [decide_true, Bool.not_true, Bool.false_or] at h3
            exact h3)
          rw [this, Bool.or_true]
        · simp [hy])
      rw [this] at h9; cases h9
  · rw [Bool.and_eq_true] at h9
    refine wAll_t (fun k hk => ?_)
    rw [hq k hk _ (sQ_lt s k), Bool.and_eq_true]
    refine ⟨wAll_iff.mp h9.1 k hk, wAll_t (fun e he => ?_)⟩
    have h2 := wAll_iff.mp h9.2 e he
    by_cases hy : eY M e = year
    · simp only [hy, decide_true, Bool.not_true, Bool.false_or] at h2 ⊢
      refine wAll_t (fun i hi => ?_)
      by_cases ha : sAt w h (eS M e) (eE M e) i = k
      · have h3 := wAll_iff.mp h2 i hi
        simp only [sSide] at h3
        rw [ha] at h3
        simp only [Bool.or_eq_true, decide_eq_true_eq]
        exact Or.inr (of_decide_eq_true h3)
      · simp [ha]
    · simp [hy]
def lastT (M : wm_M) (y : Nat) : Nat → Nat
  | 0 => 0
  | n + 1 => if eY M n ≤ y then max (lastT M y n) (eY M n) else lastT M y n
def eFold (M : wm_M) (h0 : Int64) : Nat → Int64
  | 0 => h0
  | n + 1 => hFold (31 * (31 * (31 * eFold M h0 n + (M.1 55 n).toInt64) + (M.1 56 n).toInt64) + (M.1 57 n).toInt64) (fun j => (M.1 (60 + n) j).toInt64) (M.1 64 n).toNatClampNeg
