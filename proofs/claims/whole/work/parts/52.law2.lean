def wAny (p : Nat → Bool) (n : Nat) : Bool := !wAll (fun i => !p i) n
theorem wAny_iff {p : Nat → Bool} {n : Nat} : wAny p n = true ↔ ∃ i, i < n ∧ p i = true := by
  unfold wAny
  constructor
  · intro h
    rcases wFind_cases p n with ⟨-, h1⟩ | ⟨i, hi, -, h1, -⟩
    · rw [wAll_t (fun i hi => by rw [h1 i hi]; rfl)] at h; cases h
    · exact ⟨i, hi, h1⟩
  · rintro ⟨i, hi, h⟩
    rw [wAll_f hi (by rw [h]; rfl)]; rfl
theorem wAny_s (p : Nat → Bool) (n : Nat) : wAny p (n + 1) = (wAny p n || p n) := by
  cases h : (wAny p n || p n)
  · rw [Bool.or_eq_false_iff] at h
    exact Bool.eq_false_iff.mpr (fun q => by
      obtain ⟨i, hi, hp⟩ := wAny_iff.mp q
      rcases Nat.lt_or_eq_of_le (Nat.le_of_lt_succ hi) with z | z
      · rw [wAny_iff.mpr ⟨i, z, hp⟩] at h; cases h.1
      · subst z; rw [hp] at h; cases h.2)
  · rw [Bool.or_eq_true] at h
    rcases h with h | h
    · obtain ⟨i, hi, hp⟩ := wAny_iff.mp h
      exact wAny_iff.mpr ⟨i, Nat.lt_succ_of_lt hi, hp⟩
    · exact wAny_iff.mpr ⟨n, Nat.lt_succ_self n, h⟩
theorem wAny_0 (p : Nat → Bool) : wAny p 0 = false := rfl
theorem wAll_s (p : Nat → Bool) (n : Nat) : wAll p (n + 1) = (wAll p n && p n) := by
  unfold wAll; rw [List.range_succ, List.all_append]; simp
theorem wAll_0 (p : Nat → Bool) : wAll p 0 = true := rfl
theorem wAny_cong {p q : Nat → Bool} {n : Nat} (h : ∀ i, i < n → p i = q i) : wAny p n = wAny q n := by
  unfold wAny; rw [wAll_cong (fun i hi => by rw [h i hi])]
/-- the quarters that stone k can have, as bits -/
def hadN (kd : Nat → Int32) (n k : Nat) : Nat := if k < n then (if sMost (kd k) = 3 then 15 else if sMost (kd k) = 1 then 5 else 1) else 1
theorem hadN_lt (kd : Nat → Int32) (n k : Nat) : hadN kd n k < 16 := by unfold hadN; split <;> (try split) <;> (try split) <;> omega
theorem hadN_t (kd : Nat → Int32) (n k : Nat) : tHad kd n k = nI (hadN kd n k) := by
  unfold tHad hadN sHad
  split
  · split
    · rfl
    · split <;> rfl
  · rfl
def matchB (w h : Nat) (kd wd lw : Nat → Int32) (z s st e b : Nat) : Bool := wAll (fun i => decide (sShow kd wd (sAt w h st e (b + i)) (sSide h s (sAt w h st e (b + i)) st e) = lw i)) z
def any3 (w h : Nat) (kd wd lw : Nat → Int32) (z s : Nat) : Bool := wAny (fun st => wAny (fun e => wAny (fun b => matchB w h kd wd lw z s st e b) (sLen w h st + 1 - z)) 2) (w + h)
/-- the law of z words stands in state s, which can be had -/
def stS (w h : Nat) (kd wd lw : Nat → Int32) (z s : Nat) : Bool := prodB (hadN kd (w * h)) s && any3 w h kd wd lw z s
theorem prod_match {qb hn at_ : Nat → Nat} {sh : Nat → Nat → Nat → Bool} {z s : Nat} (hq : ∀ k, k < 6 → ∀ q, q < 4 → (qb k).testBit q = ((hn k).testBit q && wAll (fun i => !decide (at_ i = k) || sh k q i) z)) (ha : ∀ i, i < z → at_ i < 6) : prodB qb s = (prodB hn s && wAll (fun i => sh (at_ i) (sQ s (at_ i)) i) z) := by
  cases h : (prodB hn s && wAll (fun i => sh (at_ i) (sQ s (at_ i)) i) z)
  · rw [Bool.and_eq_false_iff] at h
    refine Bool.eq_false_iff.mpr (fun q => ?_)
    have q1 := wAll_iff.mp q
    have q2 : ∀ k, k < 6 → ((hn k).testBit (sQ s k) = true ∧ wAll (fun i => !decide (at_ i = k) || sh k (sQ s k) i) z = true) := fun k hk => by
      have := q1 k hk
      rw [hq k hk _ (sQ_lt s k), Bool.and_eq_true] at this
      exact this
    rcases h with h | h
    · have : prodB hn s = true := wAll_t (fun k hk => (q2 k hk).1)
      rw [this] at h; cases h
    · have : wAll (fun i => sh (at_ i) (sQ s (at_ i)) i) z = true := wAll_t (fun i hi => by
        have := wAll_iff.mp (q2 (at_ i) (ha i hi)).2 i hi
        simpa using this)
      rw [this] at h; cases h
  · rw [Bool.and_eq_true] at h
    refine wAll_t (fun k hk => ?_)
    rw [hq k hk _ (sQ_lt s k), Bool.and_eq_true]
    refine ⟨wAll_iff.mp h.1 k hk, wAll_t (fun i hi => ?_)⟩
    by_cases he : at_ i = k
    · have := wAll_iff.mp h.2 i hi
      rw [he] at this
      simp [this]
    · simp [he]
/-- only these cells have changed: ints of I, longs of J -/
def Fr (I J : List Nat) (M N : wm_M) : Prop := (∀ c, c ∉ I → N.1 c = M.1 c) ∧ (∀ c, c ∉ J → N.2.1 c = M.2.1 c) ∧ N.2.2 = M.2.2
theorem Fr.rf (I J : List Nat) (M : wm_M) : Fr I J M M := ⟨fun _ _ => rfl, fun _ _ => rfl, rfl⟩
theorem Fr.tr {I J : List Nat} {M N O : wm_M} (h : Fr I J M N) (h2 : Fr I J N O) : Fr I J M O := ⟨fun c hc => (h2.1 c hc).trans (h.1 c hc), fun c hc => (h2.2.1 c hc).trans (h.2.1 c hc), h2.2.2.trans h.2.2⟩
theorem Fr.ofI {I J : List Nat} {M : wm_M} {k : Nat} {f : Nat → Int32} (h : k ∈ I) : Fr I J M (wIa M k f) := ⟨fun c hc => wIa_n (fun e => hc (e ▸ h)), fun _ _ => rfl, rfl⟩
theorem Fr.ofJ {I J : List Nat} {M : wm_M} {k : Nat} {f : Nat → Int64} (h : k ∈ J) : Fr I J M (wJa M k f) := ⟨fun _ _ => rfl, fun c hc => wJa_n (fun e => hc (e ▸ h)), rfl⟩
theorem Fr.mono {I J I' J' : List Nat} {M N : wm_M} (h : Fr I J M N) (hI : ∀ c, c ∈ I → c ∈ I') (hJ : ∀ c, c ∈ J → c ∈ J') : Fr I' J' M N := ⟨fun c hc => h.1 c (fun q => hc (hI c q)), fun c hc => h.2.1 c (fun q => hc (hJ c q)), h.2.2⟩
theorem TW.fr {M N : wm_M} {w h : Nat} (hW : TW M w h) (h17 : N.1 17 = M.1 17) : TW N w h := by unfold TW; rw [h17]; exact hW
theorem LZ.fr {M N : wm_M} {l z : Nat} (hL : LZ M l z) (h35 : N.1 35 = M.1 35) : LZ N l z := by unfold LZ; rw [h35]; exact hL
theorem SSl (l : Nat) (h : l < 4) : SS (38 + 2 * l) := by
  match l, h with
  | 0, _ => exact ⟨rfl, rfl⟩
  | 1, _ => exact ⟨rfl, rfl⟩
  | 2, _ => exact ⟨rfl, rfl⟩
  | 3, _ => exact ⟨rfl, rfl⟩
theorem SSv (l : Nat) (h : l < 10) : SS (72 + 2 * l) := by
  match l, h with
  | 0, _ => exact ⟨rfl, rfl⟩
  | 1, _ => exact ⟨rfl, rfl⟩
  | 2, _ => exact ⟨rfl, rfl⟩
  | 3, _ => exact ⟨rfl, rfl⟩
  | 4, _ => exact ⟨rfl, rfl⟩
  | 5, _ => exact ⟨rfl, rfl⟩
  | 6, _ => exact ⟨rfl, rfl⟩
  | 7, _ => exact ⟨rfl, rfl⟩
  | 8, _ => exact ⟨rfl, rfl⟩
  | 9, _ => exact ⟨rfl, rfl⟩
theorem SS_47 : SS 47 := ⟨rfl, rfl⟩
theorem SS_49 : SS 49 := ⟨rfl, rfl⟩
theorem SS_51 : SS 51 := ⟨rfl, rfl⟩
theorem SS_67 : SS 67 := ⟨rfl, rfl⟩
theorem tSum_s {f : Nat → Int32} {z i : Nat} (hi : i < z) (h : f i = -9) : tSum f z = -9 := by
  unfold tSum; rw [if_neg (by rw [wAll_f hi (by simp [h])]; decide)]
