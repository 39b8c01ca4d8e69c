/-! ===== small rows: an index in range, fills, memory ===== -/
def wIn (r : Int32) (m : Nat) : Bool := decide (0 ≤ r.toInt) && decide (r.toInt < m)
theorem wIn_neg {r : Int32} {m : Nat} (h : r < 0) : wIn r m = false := by
  rw [Int32.lt_iff_toInt_lt, Int32.toInt_zero] at h
  simp only [wIn, Bool.and_eq_false_iff, decide_eq_false_iff_not]
  omega
theorem wIn_ge {r : Int32} {m : Nat} (hm : m < 2 ^ 31) (h : nI m ≤ r) : wIn r m = false := by
  rw [Int32.le_iff_toInt_le, nI_toInt hm] at h
  simp only [wIn, Bool.and_eq_false_iff, decide_eq_false_iff_not]
  omega
theorem wIn_of {r : Int32} {m : Nat} (hm : m < 2 ^ 31) (h0 : ¬ r < 0) (h : ¬ nI m ≤ r) : wIn r m = true := by
  rw [Int32.lt_iff_toInt_lt, Int32.toInt_zero] at h0
  rw [Int32.le_iff_toInt_le, nI_toInt hm] at h
  simp only [wIn, Bool.and_eq_true, decide_eq_true_eq]
  omega
theorem wIn_nI {j m : Nat} (hj : j < 2 ^ 31) : wIn (nI j) m = decide (j < m) := by
  simp only [wIn, nI_toInt hj]
  by_cases h : j < m
  · simp [h]
  · simp [h]
theorem wIn_ex {r : Int32} {m : Nat} (hm : m < 2 ^ 31) (h : wIn r m = true) : ∃ j, j < m ∧ r = nI j := by
  simp only [wIn, Bool.and_eq_true, decide_eq_true_eq] at h
  exact vp_in_of (vp_in_iff.mpr h) hm
theorem wIn_cases (r : Int32) {m : Nat} (hm : m < 2 ^ 31) : wIn r m = false ∨ ∃ j, j < m ∧ r = nI j := by
  cases h : wIn r m
  · exact Or.inl rfl
  · exact Or.inr (wIn_ex hm h)
theorem wIn_vp {r : Int32} {m : Nat} (h : wIn r m = true) : vp_in r m := by
  simp only [wIn, Bool.and_eq_true, decide_eq_true_eq] at h
  exact vp_in_iff.mpr h
/-- f, but v at a .. b - 1 -/
def wFill {α : Type} (f : Nat → α) (a b : Nat) (v : α) : Nat → α := fun j => if a ≤ j ∧ j < b then v else f j
theorem wFill_0 {α : Type} (f : Nat → α) (a : Nat) (v : α) : wFill f a a v = f := by
  funext j; simp only [wFill]; rw [if_neg (by omega)]
theorem wFill_in {α : Type} {f : Nat → α} {a b j : Nat} {v : α} (h : a ≤ j) (h2 : j < b) : wFill f a b v j = v := if_pos ⟨h, h2⟩
theorem wFill_out {α : Type} {f : Nat → α} {a b j : Nat} {v : α} (h : j < a ∨ b ≤ j) : wFill f a b v j = f j := if_neg (by omega)
theorem wFill_s {f : Nat → Int32} {a i : Nat} {v : Int32} (h : a ≤ i) : upd (wFill f a i v) i v = wFill f a (i + 1) v := by
  funext j; simp only [upd, wFill]
  by_cases h1 : j = i
  · subst h1; simp [h]
  · by_cases h2 : a ≤ j ∧ j < i
    · rw [if_neg h1, if_pos h2, if_pos (by omega)]
    · rw [if_neg h1, if_neg h2, if_neg (by omega)]
theorem wFill_sL {f : Nat → Int64} {a i : Nat} {v : Int64} (h : a ≤ i) : vp_updL (wFill f a i v) i v = wFill f a (i + 1) v := by
  funext j; simp only [vp_updL, wFill]
  by_cases h1 : j = i
  · subst h1; simp [h]
  · by_cases h2 : a ≤ j ∧ j < i
    · rw [if_neg h1, if_pos h2, if_pos (by omega)]
    · rw [if_neg h1, if_neg h2, if_neg (by omega)]
theorem wI_wIa {M : wm_M} {k j : Nat} {f : Nat → Int32} {x : Int32} : wI (wIa M k f) k j x = wIa M k (upd f j x) := by
  unfold wI; rw [wIa_s, wIa_wIa]
theorem wJ_wJa {M : wm_M} {k j : Nat} {f : Nat → Int64} {x : Int64} : wJ (wJa M k f) k j x = wJa M k (vp_updL f j x) := by
  unfold wJ; rw [wJa_s, wJa_wJa]
/-- f below i, g from i on: a loop over a row that is i places on -/
def wTo {α : Type} (f g : Nat → α) (i : Nat) : Nat → α := fun j => if j < i then f j else g j
theorem wTo_0 {α : Type} (f g : Nat → α) : wTo f g 0 = g := by funext j; simp [wTo]
theorem wTo_in {α : Type} {f g : Nat → α} {i j : Nat} (h : j < i) : wTo f g i j = f j := if_pos h
theorem wTo_out {α : Type} {f g : Nat → α} {i j : Nat} (h : i ≤ j) : wTo f g i j = g j := if_neg (by omega)
theorem wTo_s {f g : Nat → Int32} {i : Nat} {v : Int32} (h : v = f i) : upd (wTo f g i) i v = wTo f g (i + 1) := by
  subst h; funext j; simp only [upd, wTo]
  by_cases h1 : j = i
  · subst h1; simp
  · by_cases h2 : j < i
    · rw [if_neg h1, if_pos h2, if_pos (by omega)]
    · rw [if_neg h1, if_neg h2, if_neg (by omega)]
theorem wTo_sL {f g : Nat → Int64} {i : Nat} {v : Int64} (h : v = f i) : vp_updL (wTo f g i) i v = wTo f g (i + 1) := by
  subst h; funext j; simp only [vp_updL, wTo]
  by_cases h1 : j = i
  · subst h1; simp
  · by_cases h2 : j < i
    · rw [if_neg h1, if_pos h2, if_pos (by omega)]
    · rw [if_neg h1, if_neg h2, if_neg (by omega)]
theorem upd_s {f : Nat → Int32} {k : Nat} {x : Int32} : upd f k x k = x := pk_us
theorem upd_n {f : Nat → Int32} {k j : Nat} {x : Int32} (h : j ≠ k) : upd f k x j = f j := pk_un h
theorem upd_self {f : Nat → Int32} {k : Nat} : upd f k (f k) = f := by
  funext j; by_cases h : j = k
  · subst h; exact upd_s
  · exact upd_n h
/-- a table: its object, its rows' places, its rows, their sizes -/
def TB (t m len : Nat) : Prop := wm_sh t = .inl (5, [(0, 0), (2, t + 1), (2, t + 2 + m)]) ∧ wm_sh (t + 1) = .inr (4, m, t + 2, 1) ∧ (∀ i, i < m → wm_sh (t + 2 + i) = .inr (0, len, 0, 0)) ∧ wm_sh (t + 2 + m) = .inr (0, m, 0, 0) ∧ m < 100 ∧ len < 100
theorem TB_rows : TB 1 6 60 := ⟨rfl, rfl, by decide +kernel, rfl, by decide, by decide⟩
theorem TB_texts : TB 10 4 80 := ⟨rfl, rfl, by decide +kernel, rfl, by decide, by decide⟩
theorem TB_laws : TB 29 4 3 := ⟨rfl, rfl, by decide +kernel, rfl, by decide, by decide⟩
theorem TB_engr : TB 58 4 3 := ⟨rfl, rfl, by decide +kernel, rfl, by decide, by decide⟩
theorem wa_aald1N {G : wm_G} {t : wm_T} {post : Option Value → wm_M → Prop} {pc : Nat} {ls : List (Nat × Value)} {st : List Value} {M : wm_M} {k n b kd e : Nat} (hkd : kd = 4 ∨ kd = 5) (d : decode t.2.1 pc = .ok (.aaload, 1)) (hs : wm_sh k = .inr (kd, n, b, 1)) (he : e < n) (hn : n < 2 ^ 31) (kk : WA G t post (pc + 1) ls (wm_r G (b + e) :: st) M) : WA G t post pc ls (.int (nI e) :: wm_r G k :: st) M := wa_aaldN hkd d hs he hn (by rw [Nat.one_mul]; exact kk)
/-- how many of the first n are so -/
def wCnt (p : Nat → Bool) : Nat → Nat
  | 0 => 0
  | n + 1 => wCnt p n + if p n then 1 else 0
theorem wCnt_le (p : Nat → Bool) : ∀ n, wCnt p n ≤ n
  | 0 => Nat.le_refl _
  | n + 1 => by
    have := wCnt_le p n
    simp only [wCnt]; split <;> omega
def hFold (h : Int64) (f : Nat → Int64) : Nat → Int64
  | 0 => h
  | n + 1 => 31 * hFold h f n + f n
/-- a table, folded: of each row its size and places -/
def tFold (h : Int64) (sz : Nat → Int32) (c : Nat → Nat → Int32) : Nat → Int64
  | 0 => h
  | r + 1 => hFold (31 * tFold h sz c r + (sz r).toInt64) (fun i => (c r i).toInt64) (sz r).toNatClampNeg
theorem wClamp (x : Int32) : (if x < 0 then 0 else x) = nI x.toNatClampNeg := by
  split
  · rename_i h
    rw [Int32.lt_iff_toInt_lt, Int32.toInt_zero] at h
    have : x.toNatClampNeg = 0 := by
      show x.toInt.toNat = 0
      omega
    rw [this]; rfl
  · rename_i h
    obtain ⟨j, hj, rfl⟩ := nI_of h
    rw [nI_clamp hj]
theorem wClamp_lt (x : Int32) : x.toNatClampNeg < 2 ^ 31 := by
  have := Int32.toInt_lt x
  show x.toInt.toNat < 2 ^ 31
  omega
