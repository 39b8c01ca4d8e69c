/-! ===== the memory of the two systems: cells in the order of their making; ints, longs, and where four references point ===== -/
abbrev wm_M : Type := (Nat → Nat → Int32) × (Nat → Nat → Int64) × (Nat → Bool)
/-- a cell's shape: an object (its class, its fields: int, long, a reference to a cell, a reference that moves), or an array (its kind, its length; of references: the first cell, and how far apart) -/
abbrev wm_S : Type := (Nat × List (Nat × Nat)) ⊕ (Nat × Nat × Nat × Nat)
abbrev wm_G : Type := Launch × va_G × (Nat → Nat) × (Nat → ClassId) × (Nat → Prop) × Nat
abbrev wm_T : Type := MethodName × ByteArray × Nat × Option FieldType × Nat × Nat
def wm_shp : List wm_S := [.inl (9, [(2, 1), (2, 10), (2, 17), (2, 22), (2, 27), (2, 28), (2, 46), (2, 54), (2, 65), (2, 92), (2, 94), (2, 95), (0, 0), (0, 0)]), .inl (5, [(0, 0), (2, 2), (2, 9)]), .inr (4, 6, 3, 1), .inr (0, 60, 0, 0), .inr (0, 60, 0, 0), .inr (0, 60, 0, 0), .inr (0, 60, 0, 0), .inr (0, 60, 0, 0), .inr (0, 60, 0, 0), .inr (0, 6, 0, 0), .inl (5, [(0, 0), (2, 11), (2, 16)]), .inr (4, 4, 12, 1), .inr (0, 80, 0, 0), .inr (0, 80, 0, 0), .inr (0, 80, 0, 0), .inr (0, 80, 0, 0), .inr (0, 4, 0, 0), .inl (4, [(0, 0), (0, 0), (2, 18), (2, 19), (2, 20), (2, 21)]), .inr (0, 6, 0, 0), .inr (0, 24, 0, 0), .inr (0, 6, 0, 0), .inr (0, 6, 0, 0), .inl (4, [(0, 0), (0, 0), (2, 23), (2, 24), (2, 25), (2, 26)]), .inr (0, 6, 0, 0), .inr (0, 24, 0, 0), .inr (0, 6, 0, 0), .inr (0, 6, 0, 0), .inl (7, [(2, 10), (2, 22), (0, 0), (0, 0), (0, 0)]), .inl (0, [(2, 29), (2, 36), (0, 0), (2, 17), (2, 37)]), .inl (5, [(0, 0), (2, 30), (2, 35)]), .inr (4, 4, 31, 1), .inr (0, 3, 0, 0), .inr (0, 3, 0, 0), .inr (0, 3, 0, 0), .inr (0, 3, 0, 0), .inr (0, 4, 0, 0), .inr (5, 4, 38, 2), .inr (0, 6, 0, 0), .inl (3, [(2, 39)]), .inr (1, 64, 0, 0), .inl (3, [(2, 41)]), .inr (1, 64, 0, 0), .inl (3, [(2, 43)]), .inr (1, 64, 0, 0), .inl (3, [(2, 45)]), .inr (1, 64, 0, 0), .inl (8, [(0, 0), (0, 0), (2, 17), (2, 28), (2, 47), (2, 49), (2, 51), (2, 53)]), .inl (3, [(2, 48)]), .inr (1, 64, 0, 0), .inl (3, [(2, 50)]), .inr (1, 64, 0, 0), .inl (3, [(2, 52)]), .inr (1, 64, 0, 0), .inr (0, 6, 0, 0), .inl (2, [(0, 0), (2, 17), (2, 55), (2, 56), (2, 57), (2, 58)]), .inr (0, 4, 0, 0), .inr (0, 4, 0, 0), .inr (0, 4, 0, 0), .inl (5, [(0, 0), (2, 59), (2, 64)]), .inr (4, 4, 60, 1), .inr (0, 3, 0, 0), .inr (0, 3, 0, 0), .inr (0, 3, 0, 0), .inr (0, 3, 0, 0), .inr (0, 4, 0, 0), .inl (1, [(2, 66), (2, 17), (2, 54), (2, 67), (2, 69), (3, 0), (3, 1)]), .inr (5, 10, 72, 2), .inl (3, [(2, 68)]), .inr (1, 64, 0, 0), .inr (0, 6, 0, 0), .inr (0, 4096, 0, 0), .inr (0, 4096, 0, 0), .inl (3, [(2, 73)]), .inr (1, 64, 0, 0), .inl (3, [(2, 75)]), .inr (1, 64, 0, 0), .inl (3, [(2, 77)]), .inr (1, 64, 0, 0), .inl (3, [(2, 79)]), .inr (1, 64, 0, 0), .inl (3, [(2, 81)]), .inr (1, 64, 0, 0), .inl (3, [(2, 83)]), .inr (1, 64, 0, 0), .inl (3, [(2, 85)]), .inr (1, 64, 0, 0), .inl (3, [(2, 87)]), .inr (1, 64, 0, 0), .inl (3, [(2, 89)]), .inr (1, 64, 0, 0), .inl (3, [(2, 91)]), .inr (1, 64, 0, 0), .inl (6, [(0, 0), (1, 0), (1, 0), (0, 0), (2, 93)]), .inr (0, 6, 0, 0), .inr (0, 3, 0, 0), .inr (0, 3, 0, 0), .inl (10, [(0, 0), (2, 97), (0, 0), (1, 0), (1, 0), (2, 98), (2, 99), (2, 100), (2, 101), (2, 102), (0, 0), (0, 0), (0, 0), (2, 103), (2, 104), (2, 105), (2, 106), (2, 107), (0, 0), (0, 0), (0, 0), (0, 0), (0, 0), (0, 0), (2, 108), (2, 109), (2, 110), (2, 111), (2, 112), (2, 113), (2, 114), (2, 115), (2, 116), (0, 0), (3, 2), (3, 3), (0, 0), (2, 119), (2, 120), (2, 121), (1, 0)]), .inr (0, 6, 0, 0), .inr (0, 6, 0, 0), .inr (0, 360, 0, 0), .inr (0, 60, 0, 0), .inr (0, 4, 0, 0), .inr (2, 320, 0, 0), .inr (0, 6, 0, 0), .inr (0, 24, 0, 0), .inr (0, 6, 0, 0), .inr (0, 6, 0, 0), .inr (0, 6, 0, 0), .inr (0, 42, 0, 0), .inr (0, 4, 0, 0), .inr (0, 12, 0, 0), .inr (0, 6, 0, 0), .inr (0, 3, 0, 0), .inr (0, 3, 0, 0), .inr (0, 4096, 0, 0), .inr (0, 4096, 0, 0), .inr (0, 24, 0, 0), .inr (3, 4096, 0, 0), .inr (3, 4096, 0, 0), .inr (0, 24, 0, 0), .inr (1, 40960, 0, 0), .inr (1, 40960, 0, 0)]
def wm_n : Nat := 122
def wm_sh (k : Nat) : wm_S := wm_shp.getD k (.inl (0, []))
def wm_dt (d : Nat) (b : Bool) : Nat := (if d < 2 then 70 else 117) + (if b then 1 else 0)
def wm_dl (d : Nat) : Nat × Nat := if d = 0 then (65, 5) else if d = 1 then (65, 6) else if d = 2 then (96, 34) else (96, 35)

theorem wm_lt {k : Nat} (h : wm_sh k ≠ .inl (0, [])) : k < wm_n := by
  rcases Nat.lt_or_ge k wm_n with q | q
  · exact q
  · exact absurd (by unfold wm_sh; rw [List.getD_eq_getElem?_getD, List.getElem?_eq_none (show wm_shp.length ≤ k from q)]; rfl) h
def wm_a (G : wm_G) (k : Nat) : Nat := G.2.2.1 k
def wm_r (G : wm_G) (k : Nat) : Value := .ref (wm_a G k)
def wm_fv (G : wm_G) (M : wm_M) (k j : Nat) (t : Nat × Nat) : Value := match t.1 with
  | 0 => .int (M.1 k j)
  | 1 => .long (M.2.1 k j)
  | 2 => wm_r G t.2
  | _ => wm_r G (wm_dt t.2 (M.2.2 t.2))
def wm_fs (G : wm_G) (M : wm_M) (k : Nat) : Nat → List (Nat × Nat) → List Value
  | _, [] => []
  | j, t :: ts => wm_fv G M k j t :: wm_fs G M k (j + 1) ts
theorem wm_fs_get {G : wm_G} {M : wm_M} {k : Nat} : ∀ (ts : List (Nat × Nat)) (j i : Nat), (wm_fs G M k j ts)[i]? = (ts[i]?).map (fun t => wm_fv G M k (j + i) t)
  | [], j, i => by simp [wm_fs]
  | t :: ts, j, 0 => by simp [wm_fs]
  | t :: ts, j, i + 1 => by
    simp only [wm_fs, List.getElem?_cons_succ]
    rw [wm_fs_get ts (j + 1) i, show j + 1 + i = j + (i + 1) by omega]
theorem wm_fs_len {G : wm_G} {M : wm_M} {k : Nat} : ∀ (ts : List (Nat × Nat)) (j : Nat), (wm_fs G M k j ts).length = ts.length
  | [], j => rfl
  | t :: ts, j => by simp [wm_fs, wm_fs_len ts (j + 1)]
theorem wm_fs_set {G : wm_G} {M M' : wm_M} {k i : Nat} {ts : List (Nat × Nat)} {t : Nat × Nat} {v : Value} (ht : ts[i]? = some t) (hv : wm_fv G M' k i t = v) (ho : ∀ (i' : Nat) (t' : Nat × Nat), i' ≠ i → ts[i']? = some t' → wm_fv G M' k i' t' = wm_fv G M k i' t') : (wm_fs G M k 0 ts).set i v = wm_fs G M' k 0 ts := by
  apply List.ext_getElem?
  intro i'
  by_cases h : i' = i
  · subst h
    have hl := (List.getElem?_eq_some_iff.mp ht).1
    rw [List.getElem?_set_self (by rw [wm_fs_len]; exact hl), wm_fs_get, ht]
    simp [hv]
  · rw [List.getElem?_set_ne (Ne.symm h), wm_fs_get, wm_fs_get]
    cases hq : ts[i']? with
    | none => rfl
    | some t' => simp [ho i' t' h hq]
def wm_ar (G : wm_G) (M : wm_M) (k : Nat) (a : Nat × Nat × Nat × Nat) : vp_A := (a.2.1, match a.1 with
  | 1 => .inr (.inl (M.2.1 k))
  | 4 => .inr (.inr (.inr (.inr (fun i => if i < a.2.1 then some (wm_a G (a.2.2.1 + a.2.2.2 * i)) else none))))
  | 5 => .inr (.inr (.inr (.inr (fun i => if i < a.2.1 then some (wm_a G (a.2.2.1 + a.2.2.2 * i)) else none))))
  | _ => .inl (M.1 k))
def wm_cell (G : wm_G) (M : wm_M) (k : Nat) : va_E := match wm_sh k with
  | .inl o => .inr (o.1, wm_fs G M k 0 o.2)
  | .inr a => .inl (G.2.2.2.1 a.1, wm_ar G M k a)
def wm_ws (G : wm_G) (M : wm_M) : va_W := (List.range wm_n).map (fun k => (wm_a G k, wm_cell G M k))
theorem wm_at {G : wm_G} {M : wm_M} {k : Nat} (hk : k < wm_n) : (wm_ws G M)[k]? = some (wm_a G k, wm_cell G M k) := by simp [wm_ws, hk]
theorem wm_set {G : wm_G} {M M' : wm_M} {k : Nat} {e : va_E} (hk : k < wm_n) (h : wm_cell G M' k = e) (ho : ∀ j, j ≠ k → wm_cell G M' j = wm_cell G M j) : (wm_ws G M).set k (wm_a G k, e) = wm_ws G M' := by
  apply List.ext_getElem?
  intro i
  by_cases hi : i = k
  · subst hi
    rw [List.getElem?_set_self (by simp [wm_ws, hk]), wm_at hk, h]
  · rw [List.getElem?_set_ne (Ne.symm hi)]
    simp only [wm_ws, List.getElem?_map]
    by_cases hl : i < wm_n
    · simp [hl, ho i hi]
    · simp [hl]
theorem wm_obj {G : wm_G} {M : wm_M} {k ci : Nat} {fts : List (Nat × Nat)} (h : wm_sh k = .inl (ci, fts)) : wm_cell G M k = .inr (ci, wm_fs G M k 0 fts) := by unfold wm_cell; rw [h]
theorem wm_arr {G : wm_G} {M : wm_M} {k : Nat} {a : Nat × Nat × Nat × Nat} (h : wm_sh k = .inr a) : wm_cell G M k = .inl (G.2.2.2.1 a.1, wm_ar G M k a) := by unfold wm_cell; rw [h]
theorem wm_ltO {k ci j : Nat} {fts : List (Nat × Nat)} {t : Nat × Nat} (h : wm_sh k = .inl (ci, fts)) (hf : fts[j]? = some t) : k < wm_n := wm_lt (fun q => by rw [h] at q; cases q; simp at hf)
theorem wm_ltA {k : Nat} {a : Nat × Nat × Nat × Nat} (h : wm_sh k = .inr a) : k < wm_n := wm_lt (fun q => by rw [h] at q; cases q)
/-- what a store makes of the memory -/
def wIa (M : wm_M) (k : Nat) (f : Nat → Int32) : wm_M := (fun k' => if k' = k then f else M.1 k', M.2)
def wJa (M : wm_M) (k : Nat) (f : Nat → Int64) : wm_M := (M.1, fun k' => if k' = k then f else M.2.1 k', M.2.2)
def wI (M : wm_M) (k j : Nat) (x : Int32) : wm_M := wIa M k (upd (M.1 k) j x)
def wJ (M : wm_M) (k j : Nat) (x : Int64) : wm_M := wJa M k (vp_updL (M.2.1 k) j x)
def wD (M : wm_M) (d : Nat) (b : Bool) : wm_M := (M.1, M.2.1, fun d' => if d' = d then b else M.2.2 d')
theorem wIa_s {M : wm_M} {k : Nat} {f : Nat → Int32} : (wIa M k f).1 k = f := if_pos rfl
theorem wIa_n {M : wm_M} {k k' : Nat} {f : Nat → Int32} (h : k' ≠ k) : (wIa M k f).1 k' = M.1 k' := if_neg h
theorem wIa_2 {M : wm_M} {k : Nat} {f : Nat → Int32} : (wIa M k f).2 = M.2 := rfl
theorem wJa_s {M : wm_M} {k : Nat} {f : Nat → Int64} : (wJa M k f).2.1 k = f := if_pos rfl
theorem wJa_n {M : wm_M} {k k' : Nat} {f : Nat → Int64} (h : k' ≠ k) : (wJa M k f).2.1 k' = M.2.1 k' := if_neg h
theorem wJa_1 {M : wm_M} {k : Nat} {f : Nat → Int64} : (wJa M k f).1 = M.1 := rfl
theorem wJa_22 {M : wm_M} {k : Nat} {f : Nat → Int64} : (wJa M k f).2.2 = M.2.2 := rfl
theorem wIa_self {M : wm_M} {k : Nat} : wIa M k (M.1 k) = M := by
  have : (fun k' => if k' = k then M.1 k else M.1 k') = M.1 := by
    funext k'; by_cases h : k' = k
    · simp [h]
    · simp [h]
  unfold wIa; rw [this]
theorem wIa_wIa {M : wm_M} {k : Nat} {f g : Nat → Int32} : wIa (wIa M k f) k g = wIa M k g := by
  unfold wIa; congr 1; funext k'; by_cases h : k' = k <;> simp [h]
theorem wJa_self {M : wm_M} {k : Nat} : wJa M k (M.2.1 k) = M := by
  have : (fun k' => if k' = k then M.2.1 k else M.2.1 k') = M.2.1 := by
    funext k'; by_cases h : k' = k
    · simp [h]
    · simp [h]
  unfold wJa; rw [this]
theorem wJa_wJa {M : wm_M} {k : Nat} {f g : Nat → Int64} : wJa (wJa M k f) k g = wJa M k g := by
  unfold wJa; congr 2; funext k'; by_cases h : k' = k <;> simp [h]
theorem wIa_comm {M : wm_M} {k k' : Nat} {f g : Nat → Int32} (h : k ≠ k') : wIa (wIa M k f) k' g = wIa (wIa M k' g) k f := by
  unfold wIa; congr 1; funext q
  by_cases h1 : q = k
  · subst h1; simp [h]
  · by_cases h2 : q = k'
    · subst h2; simp [h1]
    · simp [h1, h2]
theorem wm_fv_I {G : wm_G} {M : wm_M} {k j : Nat} {f : Nat → Int32} {t : Nat × Nat} {k' : Nat} (h : k' ≠ k) : wm_fv G (wIa M k f) k' j t = wm_fv G M k' j t := by
  unfold wm_fv; split <;> simp [wIa_n h, wIa_2]
theorem wm_fs_I {G : wm_G} {M : wm_M} {k : Nat} {f : Nat → Int32} {k' : Nat} (h : k' ≠ k) : ∀ (ts : List (Nat × Nat)) (j : Nat), wm_fs G (wIa M k f) k' j ts = wm_fs G M k' j ts
  | [], _ => rfl
  | t :: ts, j => by simp only [wm_fs]; rw [wm_fv_I h, wm_fs_I h ts (j + 1)]
theorem wm_cell_I {G : wm_G} {M : wm_M} {k : Nat} {f : Nat → Int32} {k' : Nat} (h : k' ≠ k) : wm_cell G (wIa M k f) k' = wm_cell G M k' := by
  unfold wm_cell
  cases wm_sh k' with
  | inl o => simp only; rw [wm_fs_I h]
  | inr a => simp only; unfold wm_ar; split <;> simp [wIa_n h, wIa_2]
theorem wm_fv_J {G : wm_G} {M : wm_M} {k j : Nat} {f : Nat → Int64} {t : Nat × Nat} {k' : Nat} (h : k' ≠ k) : wm_fv G (wJa M k f) k' j t = wm_fv G M k' j t := by
  unfold wm_fv; split <;> simp [wJa_n h, wJa_1, wJa_22]
theorem wm_fs_J {G : wm_G} {M : wm_M} {k : Nat} {f : Nat → Int64} {k' : Nat} (h : k' ≠ k) : ∀ (ts : List (Nat × Nat)) (j : Nat), wm_fs G (wJa M k f) k' j ts = wm_fs G M k' j ts
  | [], _ => rfl
  | t :: ts, j => by simp only [wm_fs]; rw [wm_fv_J h, wm_fs_J h ts (j + 1)]
theorem wm_cell_J {G : wm_G} {M : wm_M} {k : Nat} {f : Nat → Int64} {k' : Nat} (h : k' ≠ k) : wm_cell G (wJa M k f) k' = wm_cell G M k' := by
  unfold wm_cell
  cases wm_sh k' with
  | inl o => simp only; rw [wm_fs_J h]
  | inr a => simp only; unfold wm_ar; split <;> simp [wJa_n h, wJa_1, wJa_22]
/-- the moving references lie where they are told -/
theorem wm_dyn_all : ∀ k, k < wm_n → ∀ j, j < 50 → (match wm_sh k with | .inl o => (match o.2[j]? with | some t => decide (t.1 ≠ 3 ∨ (t.2 < 4 ∧ (k, j) = wm_dl t.2)) | none => true) | .inr _ => true) = true := by decide +kernel
theorem wm_len_all : ∀ k, k < wm_n → (match wm_sh k with | .inl o => decide (o.2.length < 50) && o.2.all (fun t => decide (t.1 < 4)) | .inr _ => true) = true := by decide +kernel
theorem wm_dyn {k ci j d : Nat} {fts : List (Nat × Nat)} (h : wm_sh k = .inl (ci, fts)) (hf : fts[j]? = some (3, d)) : d < 4 ∧ (k, j) = wm_dl d := by
  have hk := wm_ltO h hf
  have h1 := wm_len_all k hk
  have hj : j < 50 := by
    have := (List.getElem?_eq_some_iff.mp hf).1
    rw [h] at h1
    simp only [Bool.and_eq_true, decide_eq_true_eq] at h1
    omega
  have h2 := wm_dyn_all k hk j hj
  rw [h] at h2
  simp only [hf, decide_eq_true_eq] at h2
  rcases h2 with h2 | h2
  · exact absurd rfl h2
  · exact h2

/-! ===== WA, MA ===== -/
def wm_tys (G : wm_G) : List (ClassId × FieldType) := [(G.2.2.2.1 0, .int), (G.2.2.2.1 1, .long), (G.2.2.2.1 2, .byte), (G.2.2.2.1 3, .boolean), (G.2.2.2.1 4, .array .int), (G.2.2.2.1 5, .object "TurnedStones$StateSet")]
def wm_first (j : Nat) : Int64 := if j = 0 then 1229782938247303441 else if j = 1 then 4222189076152335 else 65535
/-- what stays as it is: classes, arrays' classes, the static array, the cells apart -/
def wm_F (G : wm_G) (U : State) : Prop := va_K G.2.1 classes (wm_tys G) U ∧ va_Z RX3 "FIRST" "[J" (.ref G.2.2.2.2.2) G.2.2.2.2.1 U U.heap ∧ va_T .long G.2.2.2.2.2 3 (fun j => .long (wm_first j)) G.2.2.2.2.1 U U.heap ∧ (∀ i j, i < wm_n → j < wm_n → wm_a G i = wm_a G j → i = j) ∧ ∀ k, k < wm_n → G.2.2.2.2.1 (wm_a G k)
def wm_R (t : wm_T) : Room := { frames := t.2.2.2.2.1, cells := 0, slots := 0, locals := t.2.2.2.2.2 }
def wm_Q (G : wm_G) (post : Option Value → wm_M → Prop) : Array Value → State → Outcome → State → Prop := fun _ st o t => (∃ (v : Option Value) (N : wm_M), o = .returned v ∧ post v N ∧ va_P G.2.1 classes (wm_ws G N) t.heap) ∧ va_F G.2.2.2.2.1 st t
def wm_C (G : wm_G) (t : wm_T) (p : Program) (s : State) (m : MethodId) (args : Array Value) (meth : Method) (c : Code) : Prop :=
  p.tables.exec = Jvm.exec ∧ c.code = t.2.1 ∧ meth.sig.returnType = t.2.2.2.1 ∧ c.maxLocals = t.2.2.1 ∧ s.vm.findClass t.1.cls = some m.cls ∧ (∀ w ∈ lw_gd, w.before args s = true) ∧ meth.locks = false ∧ wm_F G s
/-- the frame of method t at pc, with these locals, this stack, this memory: it comes to its end with post -/
def WA (G : wm_G) (t : wm_T) (post : Option Value → wm_M → Prop) (pc : Nat) (ls : List (Nat × Value)) (st : List Value) (M : wm_M) : Prop :=
  ∀ (p : Program) (e : Env) (s : State) (m : MethodId) (args : Array Value) (below : List Frame) (meth : Method) (c : Code), wm_C G t p s m args meth c → ∀ (H : Heap) (locs : List Loc) (la : Array Slot), va_P G.2.1 classes (wm_ws G M) H → va_S G.2.2.2.2.1 s.heap H locs → lv_has la t.2.2.1 ls →
    W p G.1 e (wm_R t) s m args below meth c H locs 0 0 (MQ below (wm_Q G post) args s 0 0 G.2.2.2.2.1) (F0 m pc la st)
def wm_ws0 (t : wm_T) : List Cond := Cond.code t.1 t.2.1 t.2.2.1 t.2.2.2.1 :: lw_gd
/-- method t, called with these values over this memory, comes back with post -/
def MA (G : wm_G) (t : wm_T) (av : List Value) (M : wm_M) (post : Option Value → wm_M → Prop) : Prop :=
  Met G.1 t.1 (wm_ws0 t) (wm_R t) (va_Pc av (fun U => va_P G.2.1 classes (wm_ws G M) U.heap ∧ wm_F G U)) (wm_Q G post) 0 0 G.2.2.2.2.1
theorem wm_D {G : wm_G} {U : State} (h : wm_F G U) (M : wm_M) : va_D G.2.2.2.2.1 (wm_ws G M) := by
  obtain ⟨-, -, -, hi, hA⟩ := h
  have key : ∀ (k : Nat) (q : Nat × va_E), (wm_ws G M)[k]? = some q → k < wm_n ∧ q.1 = wm_a G k := by
    intro k q hq
    have hl : k < wm_n := by
      have := (List.getElem?_eq_some_iff.mp hq).1
      simpa [wm_ws] using this
    rw [wm_at hl] at hq
    cases hq
    exact ⟨hl, rfl⟩
  refine ⟨fun i j x y h1 h2 h3 => ?_, fun k q hq => ?_⟩
  · obtain ⟨a1, a2⟩ := key i x h1
    obtain ⟨b1, b2⟩ := key j y h2
    exact hi i j a1 b1 (by rw [← a2, ← b2]; exact h3)
  · obtain ⟨a1, a2⟩ := key k q hq
    rw [a2]; exact hA k a1
theorem wm_F.moved {G : wm_G} {u U : State} (hvm : u.vm.Alike U.vm) (hh : ∀ a : Nat, a < u.heap.size → ¬ G.2.2.2.2.1 a → U.heap[a]? = u.heap[a]?) (h : wm_F G u) : wm_F G U :=
  ⟨h.1.moved hvm, (h.2.1.moved hvm).kept hh, (h.2.2.1.moved hvm).kept hh, h.2.2.2⟩
section WMR
variable {G : wm_G} {t : wm_T} {post : Option Value → wm_M → Prop} {pc : Nat} {ls : List (Nat × Value)} {st : List Value} {M : wm_M}
theorem wm_met {av : List Value} (hy : plainName t.1.cls = true) (hn : (lg_sl av).length ≤ t.2.2.1) (h : WA G t post 0 (lv_args 0 av) [] M) : MA G t av M post := by
  refine Met.ofW (cc := t.2.1) (maxL := t.2.2.1) (ret := t.2.2.2.1) hy rfl ?_
  intro p e s m args below meth c s₁ B hml hv
  obtain ⟨rfl, hP, hF⟩ := hv
  have hts := atoms_spec (ws := wm_ws0 t) B.pre
  have hl := lv_entry av hn
  rw [lg_entry_eq]
  exact h p e s m _ below meth c ⟨B.exec, B.bytes, B.returns, hml, findClass_of_methodNamed B.named, fun w hw => hts w (List.mem_cons_of_mem _ hw), B.notSynchronized, hF⟩ s.heap [] _ hP va_S.rf hl
theorem MA.mono {av : List Value} {post' : Option Value → wm_M → Prop} (h : MA G t av M post') (hp : ∀ v N, post' v N → post v N) : MA G t av M post := by
  intro p e ha hc hk s m args below hf hpre hP hq
  obtain ⟨k, o, h1, h2, h3, ⟨⟨v, N, e1, e2, e3⟩, e4⟩, h5⟩ := h p e ha hc hk s m args below hf hpre hP hq
  exact ⟨k, o, h1, h2, h3, ⟨⟨v, N, e1, hp v N e2, e3⟩, e4⟩, h5⟩
theorem WA.mono {post' : Option Value → wm_M → Prop} (h : WA G t post' pc ls st M) (hp : ∀ v N, post' v N → post v N) : WA G t post pc ls st M := by
  intro p e s m args below meth c C H locs la hP hS hl T hT X
  obtain ⟨tt, a, o, b1, b2, ⟨⟨v, N, e1, e2, e3⟩, e4⟩, h5⟩ := h p e s m args below meth c C H locs la hP hS hl T hT X
  exact ⟨tt, a, o, b1, b2, ⟨⟨v, N, e1, hp v N e2, e3⟩, e4⟩, h5⟩
theorem wa_top {M' : wm_M} (k : ∀ N : wm_M, N = M' → WA G t post pc ls st N) : WA G t post pc ls st M' := k M' rfl
theorem wa_topi {x : Int32} (k : ∀ y : Int32, y = x → WA G t post pc ls (.int y :: st) M) : WA G t post pc ls (.int x :: st) M := k x rfl
theorem wa_topl {x : Int64} (k : ∀ y : Int64, y = x → WA G t post pc ls (.long y :: st) M) : WA G t post pc ls (.long x :: st) M := k x rfl
theorem wa_eqi {x y : Int32} (h : x = y) (k : WA G t post pc ls (.int y :: st) M) : WA G t post pc ls (.int x :: st) M := h ▸ k
theorem wa_eql {x y : Int64} (h : x = y) (k : WA G t post pc ls (.long y :: st) M) : WA G t post pc ls (.long x :: st) M := h ▸ k
theorem wa_eqm {M' : wm_M} (h : M = M') (k : WA G t post pc ls st M') : WA G t post pc ls st M := h ▸ k
theorem wa_sub {ls' : List (Nat × Value)} (ks : List Nat) (h : lv_pick ls ks = ls') (k : WA G t post pc ls' st M) : WA G t post pc ls st M :=
  fun p e s m args below meth c C H locs la hP hS hl => k p e s m args below meth c C H locs la hP hS (lv_sub hl ks h)

theorem wa_iadd {x y : Int32} (d : decode t.2.1 pc = .ok (.iadd, 1)) (k : WA G t post (pc + 1) ls (.int (x + y) :: st) M) : WA G t post pc ls (.int y :: .int x :: st) M :=
  fun p e s m args below meth c C H locs la hP hS hl => lv_iadd C.1 C.2.1 d (k p e s m args below meth c C H locs la hP hS hl)
theorem wa_isub {x y : Int32} (d : decode t.2.1 pc = .ok (.isub, 1)) (k : WA G t post (pc + 1) ls (.int (x - y) :: st) M) : WA G t post pc ls (.int y :: .int x :: st) M :=
  fun p e s m args below meth c C H locs la hP hS hl => lv_isub C.1 C.2.1 d (k p e s m args below meth c C H locs la hP hS hl)
theorem wa_imul {x y : Int32} (d : decode t.2.1 pc = .ok (.imul, 1)) (k : WA G t post (pc + 1) ls (.int (x * y) :: st) M) : WA G t post pc ls (.int y :: .int x :: st) M :=
  fun p e s m args below meth c C H locs la hP hS hl => lv_imul C.1 C.2.1 d (k p e s m args below meth c C H locs la hP hS hl)
theorem wa_iand {x y : Int32} (d : decode t.2.1 pc = .ok (.iand, 1)) (k : WA G t post (pc + 1) ls (.int (x &&& y) :: st) M) : WA G t post pc ls (.int y :: .int x :: st) M :=
  fun p e s m args below meth c C H locs la hP hS hl => lv_iand C.1 C.2.1 d (k p e s m args below meth c C H locs la hP hS hl)
theorem wa_ior {x y : Int32} (d : decode t.2.1 pc = .ok (.ior, 1)) (k : WA G t post (pc + 1) ls (.int (x ||| y) :: st) M) : WA G t post pc ls (.int y :: .int x :: st) M :=
  fun p e s m args below meth c C H locs la hP hS hl => lv_ior C.1 C.2.1 d (k p e s m args below meth c C H locs la hP hS hl)
theorem wa_ixor {x y : Int32} (d : decode t.2.1 pc = .ok (.ixor, 1)) (k : WA G t post (pc + 1) ls (.int (x ^^^ y) :: st) M) : WA G t post pc ls (.int y :: .int x :: st) M :=
  fun p e s m args below meth c C H locs la hP hS hl => lv_ixor C.1 C.2.1 d (k p e s m args below meth c C H locs la hP hS hl)
theorem wa_ishl {x y : Int32} (d : decode t.2.1 pc = .ok (.ishl, 1)) (k : WA G t post (pc + 1) ls (.int (x <<< (y &&& 31)) :: st) M) : WA G t post pc ls (.int y :: .int x :: st) M :=
  fun p e s m args below meth c C H locs la hP hS hl => lv_ishl C.1 C.2.1 d (k p e s m args below meth c C H locs la hP hS hl)
theorem wa_ishr {x y : Int32} (d : decode t.2.1 pc = .ok (.ishr, 1)) (k : WA G t post (pc + 1) ls (.int (x >>> (y &&& 31)) :: st) M) : WA G t post pc ls (.int y :: .int x :: st) M :=
  fun p e s m args below meth c C H locs la hP hS hl => lv_ishr C.1 C.2.1 d (k p e s m args below meth c C H locs la hP hS hl)
theorem wa_ladd {x y : Int64} (d : decode t.2.1 pc = .ok (.ladd, 1)) (k : WA G t post (pc + 1) ls (.long (x + y) :: st) M) : WA G t post pc ls (.long y :: .long x :: st) M :=
  fun p e s m args below meth c C H locs la hP hS hl => lv_ladd C.1 C.2.1 d (k p e s m args below meth c C H locs la hP hS hl)
theorem wa_lsub {x y : Int64} (d : decode t.2.1 pc = .ok (.lsub, 1)) (k : WA G t post (pc + 1) ls (.long (x - y) :: st) M) : WA G t post pc ls (.long y :: .long x :: st) M :=
  fun p e s m args below meth c C H locs la hP hS hl => lv_lsub C.1 C.2.1 d (k p e s m args below meth c C H locs la hP hS hl)
theorem wa_lmul {x y : Int64} (d : decode t.2.1 pc = .ok (.lmul, 1)) (k : WA G t post (pc + 1) ls (.long (x * y) :: st) M) : WA G t post pc ls (.long y :: .long x :: st) M :=
  fun p e s m args below meth c C H locs la hP hS hl => lv_lmul C.1 C.2.1 d (k p e s m args below meth c C H locs la hP hS hl)
theorem wa_land {x y : Int64} (d : decode t.2.1 pc = .ok (.land, 1)) (k : WA G t post (pc + 1) ls (.long (x &&& y) :: st) M) : WA G t post pc ls (.long y :: .long x :: st) M :=
  fun p e s m args below meth c C H locs la hP hS hl => lv_land C.1 C.2.1 d (k p e s m args below meth c C H locs la hP hS hl)
theorem wa_lor {x y : Int64} (d : decode t.2.1 pc = .ok (.lor, 1)) (k : WA G t post (pc + 1) ls (.long (x ||| y) :: st) M) : WA G t post pc ls (.long y :: .long x :: st) M :=
  fun p e s m args below meth c C H locs la hP hS hl => lv_lor C.1 C.2.1 d (k p e s m args below meth c C H locs la hP hS hl)
theorem wa_lxor {x y : Int64} (d : decode t.2.1 pc = .ok (.lxor, 1)) (k : WA G t post (pc + 1) ls (.long (x ^^^ y) :: st) M) : WA G t post pc ls (.long y :: .long x :: st) M :=
  fun p e s m args below meth c C H locs la hP hS hl => lv_lxor C.1 C.2.1 d (k p e s m args below meth c C H locs la hP hS hl)
theorem wa_idiv {x y : Int32} (d : decode t.2.1 pc = .ok (.idiv, 1)) (h : ¬ y = 0) (k : WA G t post (pc + 1) ls (.int (x / y) :: st) M) : WA G t post pc ls (.int y :: .int x :: st) M :=
  fun p e s m args below meth c C H locs la hP hS hl => lv_idiv C.1 C.2.1 d h (k p e s m args below meth c C H locs la hP hS hl)
theorem wa_irem {x y : Int32} (d : decode t.2.1 pc = .ok (.irem, 1)) (h : ¬ y = 0) (k : WA G t post (pc + 1) ls (.int (x - x / y * y) :: st) M) : WA G t post pc ls (.int y :: .int x :: st) M :=
  fun p e s m args below meth c C H locs la hP hS hl => lv_irem C.1 C.2.1 d h (k p e s m args below meth c C H locs la hP hS hl)
theorem wa_ldiv {x y : Int64} (d : decode t.2.1 pc = .ok (.ldiv, 1)) (h : ¬ y = 0) (k : WA G t post (pc + 1) ls (.long (x / y) :: st) M) : WA G t post pc ls (.long y :: .long x :: st) M :=
  fun p e s m args below meth c C H locs la hP hS hl => lv_ldiv C.1 C.2.1 d h (k p e s m args below meth c C H locs la hP hS hl)
theorem wa_lrem {x y : Int64} (d : decode t.2.1 pc = .ok (.lrem, 1)) (h : ¬ y = 0) (k : WA G t post (pc + 1) ls (.long (x - x / y * y) :: st) M) : WA G t post pc ls (.long y :: .long x :: st) M :=
  fun p e s m args below meth c C H locs la hP hS hl => lv_lrem C.1 C.2.1 d h (k p e s m args below meth c C H locs la hP hS hl)
theorem wa_i2l {x : Int32} (d : decode t.2.1 pc = .ok (.i2l, 1)) (k : WA G t post (pc + 1) ls (.long x.toInt64 :: st) M) : WA G t post pc ls (.int x :: st) M :=
  fun p e s m args below meth c C H locs la hP hS hl => lv_i2l C.1 C.2.1 d rfl (k p e s m args below meth c C H locs la hP hS hl)
theorem wa_l2i {x : Int64} (d : decode t.2.1 pc = .ok (.l2i, 1)) (k : WA G t post (pc + 1) ls (.int x.toInt32 :: st) M) : WA G t post pc ls (.long x :: st) M :=
  fun p e s m args below meth c C H locs la hP hS hl => lv_l2i C.1 C.2.1 d rfl (k p e s m args below meth c C H locs la hP hS hl)
theorem wa_i2b {x : Int32} (d : decode t.2.1 pc = .ok (.i2b, 1)) (k : WA G t post (pc + 1) ls (.int x.toInt8.toInt32 :: st) M) : WA G t post pc ls (.int x :: st) M :=
  fun p e s m args below meth c C H locs la hP hS hl => lv_i2b C.1 C.2.1 d rfl (k p e s m args below meth c C H locs la hP hS hl)
theorem wa_iushr {x y : Int32} (d : decode t.2.1 pc = .ok (.iushr, 1)) (k : WA G t post (pc + 1) ls (.int (x.toUInt32 >>> (y.toUInt32 &&& Int32.toUInt32 31)).toInt32 :: st) M) : WA G t post pc ls (.int y :: .int x :: st) M :=
  fun p e s m args below meth c C H locs la hP hS hl => lv_iushr C.1 C.2.1 d rfl (k p e s m args below meth c C H locs la hP hS hl)
theorem wa_lushr {x : Int64} {y : Int32} (d : decode t.2.1 pc = .ok (.lushr, 1)) (k : WA G t post (pc + 1) ls (.long (x.toUInt64 >>> (y.toInt64.toUInt64 &&& Int64.toUInt64 63)).toInt64 :: st) M) : WA G t post pc ls (.int y :: .long x :: st) M :=
  fun p e s m args below meth c C H locs la hP hS hl => lv_lushr C.1 C.2.1 d rfl (k p e s m args below meth c C H locs la hP hS hl)
theorem wa_lshl {x : Int64} {y : Int32} (d : decode t.2.1 pc = .ok (.lshl, 1)) (k : WA G t post (pc + 1) ls (.long (x <<< (y.toInt64 &&& 63)) :: st) M) : WA G t post pc ls (.int y :: .long x :: st) M :=
  fun p e s m args below meth c C H locs la hP hS hl => lv_lshl C.1 C.2.1 d rfl (k p e s m args below meth c C H locs la hP hS hl)
theorem wa_lcmp {x y : Int64} (d : decode t.2.1 pc = .ok (.lcmp, 1)) (k : WA G t post (pc + 1) ls (.int (lg_cmp x y) :: st) M) : WA G t post pc ls (.long y :: .long x :: st) M :=
  fun p e s m args below meth c C H locs la hP hS hl => W.lcmp C.1 C.2.1 d (k p e s m args below meth c C H locs la hP hS hl)
theorem wa_dup {v : Value} (d : decode t.2.1 pc = .ok (.dup, 1)) (h : v.category = 1) (k : WA G t post (pc + 1) ls (v :: v :: st) M) : WA G t post pc ls (v :: st) M :=
  fun p e s m args below meth c C H locs la hP hS hl => lv_dup C.1 C.2.1 d h (k p e s m args below meth c C H locs la hP hS hl)
theorem wa_dup_x1 {v u : Value} (d : decode t.2.1 pc = .ok (.dup_x1, 1)) (h : v.category = 1) (h2 : u.category = 1) (k : WA G t post (pc + 1) ls (v :: u :: v :: st) M) : WA G t post pc ls (v :: u :: st) M :=
  fun p e s m args below meth c C H locs la hP hS hl => lv_dup_x1 C.1 C.2.1 d h h2 (k p e s m args below meth c C H locs la hP hS hl)
theorem wa_dup2_11 {v u : Value} (d : decode t.2.1 pc = .ok (.dup2, 1)) (h : v.category = 1) (h2 : u.category = 1) (k : WA G t post (pc + 1) ls (v :: u :: v :: u :: st) M) : WA G t post pc ls (v :: u :: st) M :=
  fun p e s m args below meth c C H locs la hP hS hl => lv_dup2_11 C.1 C.2.1 d h h2 (k p e s m args below meth c C H locs la hP hS hl)
theorem wa_dup2_2 {v : Value} (d : decode t.2.1 pc = .ok (.dup2, 1)) (h : v.category = 2) (k : WA G t post (pc + 1) ls (v :: v :: st) M) : WA G t post pc ls (v :: st) M :=
  fun p e s m args below meth c C H locs la hP hS hl => lv_dup2_2 C.1 C.2.1 d h (k p e s m args below meth c C H locs la hP hS hl)
theorem wa_pop {v : Value} (d : decode t.2.1 pc = .ok (.pop, 1)) (h : v.category = 1) (k : WA G t post (pc + 1) ls (st) M) : WA G t post pc ls (v :: st) M :=
  fun p e s m args below meth c C H locs la hP hS hl => lv_pop C.1 C.2.1 d h (k p e s m args below meth c C H locs la hP hS hl)
theorem wa_iconst {n : Int} (v : Int32) (d : decode t.2.1 pc = .ok (.iconst n, 1)) (h : Int32.ofInt n = v) (k : WA G t post (pc + 1) ls (.int v :: st) M) : WA G t post pc ls (st) M :=
  fun p e s m args below meth c C H locs la hP hS hl => lv_iconst C.1 C.2.1 d h (k p e s m args below meth c C H locs la hP hS hl)
theorem wa_bipush {n : Int} (v : Int32) (d : decode t.2.1 pc = .ok (.bipush n, 2)) (h : (Int8.ofInt n).toInt32 = v) (k : WA G t post (pc + 2) ls (.int v :: st) M) : WA G t post pc ls (st) M :=
  fun p e s m args below meth c C H locs la hP hS hl => lv_bipush C.1 C.2.1 d h (k p e s m args below meth c C H locs la hP hS hl)
theorem wa_sipush {n : Int} (v : Int32) (d : decode t.2.1 pc = .ok (.sipush n, 3)) (h : (Int16.ofInt n).toInt32 = v) (k : WA G t post (pc + 3) ls (.int v :: st) M) : WA G t post pc ls (st) M :=
  fun p e s m args below meth c C H locs la hP hS hl => lv_sipush C.1 C.2.1 d h (k p e s m args below meth c C H locs la hP hS hl)
theorem wa_lconst {n : Fin 2} (v : Int64) (d : decode t.2.1 pc = .ok (.lconst n, 1)) (h : Int64.ofNat (n : Nat) = v) (k : WA G t post (pc + 1) ls (.long v :: st) M) : WA G t post pc ls (st) M :=
  fun p e s m args below meth c C H locs la hP hS hl => lv_lconst C.1 C.2.1 d h (k p e s m args below meth c C H locs la hP hS hl)
theorem wa_iload_n {x : Int32} {kk : Fin 4} {i : Nat} (d : decode t.2.1 pc = .ok (.iload_n kk, 1)) (hi : (kk : Nat) = i) (q : Nat) (h : ls[q]? = some (i, .int x)) (k : WA G t post (pc + 1) ls (.int x :: st) M) : WA G t post pc ls st M :=
  fun p e s m args below meth c C H locs la hP hS hl => lv_iload_n C.1 C.2.1 d hi (lv_at hl q h) (k p e s m args below meth c C H locs la hP hS hl)
theorem wa_iload {x : Int32} {i : Nat} (d : decode t.2.1 pc = .ok (.iload i, 2)) (q : Nat) (h : ls[q]? = some (i, .int x)) (k : WA G t post (pc + 2) ls (.int x :: st) M) : WA G t post pc ls st M :=
  fun p e s m args below meth c C H locs la hP hS hl => lv_iload C.1 C.2.1 d (lv_at hl q h) (k p e s m args below meth c C H locs la hP hS hl)
theorem wa_lload_n {x : Int64} {kk : Fin 4} {i : Nat} (d : decode t.2.1 pc = .ok (.lload_n kk, 1)) (hi : (kk : Nat) = i) (q : Nat) (h : ls[q]? = some (i, .long x)) (k : WA G t post (pc + 1) ls (.long x :: st) M) : WA G t post pc ls st M :=
  fun p e s m args below meth c C H locs la hP hS hl => lv_lload_n C.1 C.2.1 d hi (lv_at hl q h) (k p e s m args below meth c C H locs la hP hS hl)
theorem wa_lload {x : Int64} {i : Nat} (d : decode t.2.1 pc = .ok (.lload i, 2)) (q : Nat) (h : ls[q]? = some (i, .long x)) (k : WA G t post (pc + 2) ls (.long x :: st) M) : WA G t post pc ls st M :=
  fun p e s m args below meth c C H locs la hP hS hl => lv_lload C.1 C.2.1 d (lv_at hl q h) (k p e s m args below meth c C H locs la hP hS hl)
theorem wa_aload_n {x : Nat} {kk : Fin 4} {i : Nat} (d : decode t.2.1 pc = .ok (.aload_n kk, 1)) (hi : (kk : Nat) = i) (q : Nat) (h : ls[q]? = some (i, .ref x)) (k : WA G t post (pc + 1) ls (.ref x :: st) M) : WA G t post pc ls st M :=
  fun p e s m args below meth c C H locs la hP hS hl => lv_aload_n C.1 C.2.1 d hi (lv_at hl q h) (k p e s m args below meth c C H locs la hP hS hl)
theorem wa_aload {x : Nat} {i : Nat} (d : decode t.2.1 pc = .ok (.aload i, 2)) (q : Nat) (h : ls[q]? = some (i, .ref x)) (k : WA G t post (pc + 2) ls (.ref x :: st) M) : WA G t post pc ls st M :=
  fun p e s m args below meth c C H locs la hP hS hl => lv_aload C.1 C.2.1 d (lv_at hl q h) (k p e s m args below meth c C H locs la hP hS hl)
theorem wa_istore_n {x : Int32} {kk : Fin 4} {i : Nat} (ls' : List (Nat × Value)) (d : decode t.2.1 pc = .ok (.istore_n kk, 1)) (hi : (kk : Nat) = i) (hn : i < t.2.2.1) (h : (i, Value.int x) :: ls.filter (fun q => !(q.1 == i) && !(q.1 + 1 == i && q.2.category == 2)) = ls') (k : WA G t post (pc + 1) ls' st M) : WA G t post pc ls (.int x :: st) M :=
  fun p e s m args below meth c C H locs la hP hS hl => lv_istore_n C.1 C.2.1 d hi hl hn h (fun la hl => k p e s m args below meth c C H locs la hP hS hl)
theorem wa_istore {x : Int32} {i : Nat} (ls' : List (Nat × Value)) (d : decode t.2.1 pc = .ok (.istore i, 2)) (hn : i < t.2.2.1) (h : (i, Value.int x) :: ls.filter (fun q => !(q.1 == i) && !(q.1 + 1 == i && q.2.category == 2)) = ls') (k : WA G t post (pc + 2) ls' st M) : WA G t post pc ls (.int x :: st) M :=
  fun p e s m args below meth c C H locs la hP hS hl => lv_istore C.1 C.2.1 d hl hn h (fun la hl => k p e s m args below meth c C H locs la hP hS hl)
theorem wa_lstore_n {x : Int64} {kk : Fin 4} {i : Nat} (ls' : List (Nat × Value)) (d : decode t.2.1 pc = .ok (.lstore_n kk, 1)) (hi : (kk : Nat) = i) (hn : i + 1 < t.2.2.1) (h : (i, Value.long x) :: ls.filter (fun q => !(q.1 == i) && (!(q.1 == i + 1) && !(q.1 + 1 == i && q.2.category == 2))) = ls') (k : WA G t post (pc + 1) ls' st M) : WA G t post pc ls (.long x :: st) M :=
  fun p e s m args below meth c C H locs la hP hS hl => lv_lstore_n C.1 C.2.1 d hi hl hn h (fun la hl => k p e s m args below meth c C H locs la hP hS hl)
theorem wa_lstore {x : Int64} {i : Nat} (ls' : List (Nat × Value)) (d : decode t.2.1 pc = .ok (.lstore i, 2)) (hn : i + 1 < t.2.2.1) (h : (i, Value.long x) :: ls.filter (fun q => !(q.1 == i) && (!(q.1 == i + 1) && !(q.1 + 1 == i && q.2.category == 2))) = ls') (k : WA G t post (pc + 2) ls' st M) : WA G t post pc ls (.long x :: st) M :=
  fun p e s m args below meth c C H locs la hP hS hl => lv_lstore C.1 C.2.1 d hl hn h (fun la hl => k p e s m args below meth c C H locs la hP hS hl)
theorem wa_astore_n {x : Nat} {kk : Fin 4} {i : Nat} (ls' : List (Nat × Value)) (d : decode t.2.1 pc = .ok (.astore_n kk, 1)) (hi : (kk : Nat) = i) (hn : i < t.2.2.1) (h : (i, Value.ref x) :: ls.filter (fun q => !(q.1 == i) && !(q.1 + 1 == i && q.2.category == 2)) = ls') (k : WA G t post (pc + 1) ls' st M) : WA G t post pc ls (.ref x :: st) M :=
  fun p e s m args below meth c C H locs la hP hS hl => lv_astore_n C.1 C.2.1 d hi hl hn h (fun la hl => k p e s m args below meth c C H locs la hP hS hl)
theorem wa_astore {x : Nat} {i : Nat} (ls' : List (Nat × Value)) (d : decode t.2.1 pc = .ok (.astore i, 2)) (hn : i < t.2.2.1) (h : (i, Value.ref x) :: ls.filter (fun q => !(q.1 == i) && !(q.1 + 1 == i && q.2.category == 2)) = ls') (k : WA G t post (pc + 2) ls' st M) : WA G t post pc ls (.ref x :: st) M :=
  fun p e s m args below meth c C H locs la hP hS hl => lv_astore C.1 C.2.1 d hl hn h (fun la hl => k p e s m args below meth c C H locs la hP hS hl)
theorem wa_iinc {i : Nat} {n : Int} {x : Int32} (v : Int32) (ls' : List (Nat × Value)) (d : decode t.2.1 pc = .ok (.iinc i n, 3)) (q : Nat) (hq : ls[q]? = some (i, .int x)) (hv : x + Int32.ofInt n = v) (hn : i < t.2.2.1) (h : (i, Value.int v) :: ls.filter (fun q => !(q.1 == i) && !(q.1 + 1 == i && q.2.category == 2)) = ls') (k : WA G t post (pc + 3) ls' st M) : WA G t post pc ls st M :=
  fun p e s m args below meth c C H locs la hP hS hl => lv_iinc C.1 C.2.1 d hl hq hv hn h (fun la hl => k p e s m args below meth c C H locs la hP hS hl)
theorem wa_goto {off : Int} (tgt : Nat) (d : decode t.2.1 pc = .ok (.goto off, 3)) (ht : (pc : Int) + off = (tgt : Int)) (k : WA G t post tgt ls st M) : WA G t post pc ls st M :=
  fun p e s m args below meth c C H locs la hP hS hl => lv_goto C.1 C.2.1 d ht (k p e s m args below meth c C H locs la hP hS hl)
theorem wa_if_eq {x : Int32} {off : Int} (tgt : Nat) (d : decode t.2.1 pc = .ok (.ifCond .eq off, 3)) (ht : (pc : Int) + off = (tgt : Int)) (kt : x = 0 → WA G t post tgt ls st M) (kf : ¬ x = 0 → WA G t post (pc + 3) ls st M) : WA G t post pc ls (.int x :: st) M :=
  fun p e s m args below meth c C H locs la hP hS hl => lv_if_eq C.1 C.2.1 d ht (fun q => kt q p e s m args below meth c C H locs la hP hS hl) (fun q => kf q p e s m args below meth c C H locs la hP hS hl)
theorem wa_icmp_eq {x y : Int32} {off : Int} (tgt : Nat) (d : decode t.2.1 pc = .ok (.if_icmp .eq off, 3)) (ht : (pc : Int) + off = (tgt : Int)) (kt : x = y → WA G t post tgt ls st M) (kf : ¬ x = y → WA G t post (pc + 3) ls st M) : WA G t post pc ls (.int y :: .int x :: st) M :=
  fun p e s m args below meth c C H locs la hP hS hl => lv_icmp_eq C.1 C.2.1 d ht (fun q => kt q p e s m args below meth c C H locs la hP hS hl) (fun q => kf q p e s m args below meth c C H locs la hP hS hl)
theorem wa_if_ne {x : Int32} {off : Int} (tgt : Nat) (d : decode t.2.1 pc = .ok (.ifCond .ne off, 3)) (ht : (pc : Int) + off = (tgt : Int)) (kt : ¬ x = 0 → WA G t post tgt ls st M) (kf : x = 0 → WA G t post (pc + 3) ls st M) : WA G t post pc ls (.int x :: st) M :=
  fun p e s m args below meth c C H locs la hP hS hl => lv_if_ne C.1 C.2.1 d ht (fun q => kt q p e s m args below meth c C H locs la hP hS hl) (fun q => kf q p e s m args below meth c C H locs la hP hS hl)
theorem wa_icmp_ne {x y : Int32} {off : Int} (tgt : Nat) (d : decode t.2.1 pc = .ok (.if_icmp .ne off, 3)) (ht : (pc : Int) + off = (tgt : Int)) (kt : ¬ x = y → WA G t post tgt ls st M) (kf : x = y → WA G t post (pc + 3) ls st M) : WA G t post pc ls (.int y :: .int x :: st) M :=
  fun p e s m args below meth c C H locs la hP hS hl => lv_icmp_ne C.1 C.2.1 d ht (fun q => kt q p e s m args below meth c C H locs la hP hS hl) (fun q => kf q p e s m args below meth c C H locs la hP hS hl)
theorem wa_if_lt {x : Int32} {off : Int} (tgt : Nat) (d : decode t.2.1 pc = .ok (.ifCond .lt off, 3)) (ht : (pc : Int) + off = (tgt : Int)) (kt : x < 0 → WA G t post tgt ls st M) (kf : ¬ x < 0 → WA G t post (pc + 3) ls st M) : WA G t post pc ls (.int x :: st) M :=
  fun p e s m args below meth c C H locs la hP hS hl => lv_if_lt C.1 C.2.1 d ht (fun q => kt q p e s m args below meth c C H locs la hP hS hl) (fun q => kf q p e s m args below meth c C H locs la hP hS hl)
theorem wa_icmp_lt {x y : Int32} {off : Int} (tgt : Nat) (d : decode t.2.1 pc = .ok (.if_icmp .lt off, 3)) (ht : (pc : Int) + off = (tgt : Int)) (kt : x < y → WA G t post tgt ls st M) (kf : ¬ x < y → WA G t post (pc + 3) ls st M) : WA G t post pc ls (.int y :: .int x :: st) M :=
  fun p e s m args below meth c C H locs la hP hS hl => lv_icmp_lt C.1 C.2.1 d ht (fun q => kt q p e s m args below meth c C H locs la hP hS hl) (fun q => kf q p e s m args below meth c C H locs la hP hS hl)
theorem wa_if_ge {x : Int32} {off : Int} (tgt : Nat) (d : decode t.2.1 pc = .ok (.ifCond .ge off, 3)) (ht : (pc : Int) + off = (tgt : Int)) (kt : 0 ≤ x → WA G t post tgt ls st M) (kf : ¬ 0 ≤ x → WA G t post (pc + 3) ls st M) : WA G t post pc ls (.int x :: st) M :=
  fun p e s m args below meth c C H locs la hP hS hl => lv_if_ge C.1 C.2.1 d ht (fun q => kt q p e s m args below meth c C H locs la hP hS hl) (fun q => kf q p e s m args below meth c C H locs la hP hS hl)
theorem wa_icmp_ge {x y : Int32} {off : Int} (tgt : Nat) (d : decode t.2.1 pc = .ok (.if_icmp .ge off, 3)) (ht : (pc : Int) + off = (tgt : Int)) (kt : y ≤ x → WA G t post tgt ls st M) (kf : ¬ y ≤ x → WA G t post (pc + 3) ls st M) : WA G t post pc ls (.int y :: .int x :: st) M :=
  fun p e s m args below meth c C H locs la hP hS hl => lv_icmp_ge C.1 C.2.1 d ht (fun q => kt q p e s m args below meth c C H locs la hP hS hl) (fun q => kf q p e s m args below meth c C H locs la hP hS hl)
theorem wa_if_gt {x : Int32} {off : Int} (tgt : Nat) (d : decode t.2.1 pc = .ok (.ifCond .gt off, 3)) (ht : (pc : Int) + off = (tgt : Int)) (kt : 0 < x → WA G t post tgt ls st M) (kf : ¬ 0 < x → WA G t post (pc + 3) ls st M) : WA G t post pc ls (.int x :: st) M :=
  fun p e s m args below meth c C H locs la hP hS hl => lv_if_gt C.1 C.2.1 d ht (fun q => kt q p e s m args below meth c C H locs la hP hS hl) (fun q => kf q p e s m args below meth c C H locs la hP hS hl)
theorem wa_icmp_gt {x y : Int32} {off : Int} (tgt : Nat) (d : decode t.2.1 pc = .ok (.if_icmp .gt off, 3)) (ht : (pc : Int) + off = (tgt : Int)) (kt : y < x → WA G t post tgt ls st M) (kf : ¬ y < x → WA G t post (pc + 3) ls st M) : WA G t post pc ls (.int y :: .int x :: st) M :=
  fun p e s m args below meth c C H locs la hP hS hl => lv_icmp_gt C.1 C.2.1 d ht (fun q => kt q p e s m args below meth c C H locs la hP hS hl) (fun q => kf q p e s m args below meth c C H locs la hP hS hl)
theorem wa_if_le {x : Int32} {off : Int} (tgt : Nat) (d : decode t.2.1 pc = .ok (.ifCond .le off, 3)) (ht : (pc : Int) + off = (tgt : Int)) (kt : x ≤ 0 → WA G t post tgt ls st M) (kf : ¬ x ≤ 0 → WA G t post (pc + 3) ls st M) : WA G t post pc ls (.int x :: st) M :=
  fun p e s m args below meth c C H locs la hP hS hl => lv_if_le C.1 C.2.1 d ht (fun q => kt q p e s m args below meth c C H locs la hP hS hl) (fun q => kf q p e s m args below meth c C H locs la hP hS hl)
theorem wa_icmp_le {x y : Int32} {off : Int} (tgt : Nat) (d : decode t.2.1 pc = .ok (.if_icmp .le off, 3)) (ht : (pc : Int) + off = (tgt : Int)) (kt : x ≤ y → WA G t post tgt ls st M) (kf : ¬ x ≤ y → WA G t post (pc + 3) ls st M) : WA G t post pc ls (.int y :: .int x :: st) M :=
  fun p e s m args below meth c C H locs la hP hS hl => lv_icmp_le C.1 C.2.1 d ht (fun q => kt q p e s m args below meth c C H locs la hP hS hl) (fun q => kf q p e s m args below meth c C H locs la hP hS hl)
end WMR
