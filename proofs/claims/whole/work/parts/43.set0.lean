theorem lb_first {x : Int64} (h : ¬ x = 0) : ∃ t, t < 64 ∧ lb x t = true ∧ ∀ j, j < t → lb x j = false := by
  rcases wFind_cases (fun i => lb x i) 64 with ⟨-, h1⟩ | ⟨i, hi, -, h1, h2⟩
  · exact absurd (lb_ext (fun i hi => by rw [h1 i hi, lb_0])) h
  · exact ⟨i, hi, h1, h2⟩
theorem both_0 {B C : Nat → Int64} {x : Int64} {i s : Nat} (e : x = B i &&& C i) (h : x = 0) (hs : s / 64 = i) : (sb B s && sb C s) = false := by
  unfold sb; rw [hs, ← lb_and, ← e, h, lb_0]
theorem wFind_both {B C : Nat → Int64} {x : Int64} {i t : Nat} (e : x = B i &&& C i) (ht : t < 64) (h : lb x t = true) (hl : ∀ j, j < t → lb x j = false) (hi : i < 64) (hn : ∀ s, s < 64 * i → (sb B s && sb C s) = false) : wFind (fun s => sb B s && sb C s) 4096 = nI (64 * i + t) := by
  refine wFind_some (by omega) ?_ (fun s hs => ?_)
  · show (sb B (64 * i + t) && sb C (64 * i + t)) = true
    unfold sb; rw [show (64 * i + t) / 64 = i by omega, show (64 * i + t) % 64 = t by omega, ← lb_and, ← e]; exact h
  · by_cases hs2 : s < 64 * i
    · exact hn s hs2
    · show (sb B s && sb C s) = false
      unfold sb; rw [show s / 64 = i by omega, ← lb_and, ← e]; exact hl _ (by omega)
theorem bcL_nI (x : Int64) : bcL x = nI (bcL x).toNatClampNeg := by
  have key : ∀ y : Int32, y &&& 127 = nI (y &&& 127).toNatClampNeg := by
    intro y
    obtain ⟨j, hj, e⟩ := pk_andE y (m := 127) 7 rfl
    rw [e, nI_clamp (by omega)]
  exact key _
def wAll (p : Nat → Bool) (n : Nat) : Bool := (List.range n).all p
theorem wAll_iff {p : Nat → Bool} {n : Nat} : wAll p n = true ↔ ∀ i, i < n → p i = true := by
  unfold wAll; rw [List.all_eq_true]
  exact ⟨fun h i hi => h i (List.mem_range.mpr hi), fun h i hi => h i (List.mem_range.mp hi)⟩
theorem wAll_t {p : Nat → Bool} {n : Nat} (h : ∀ i, i < n → p i = true) : wAll p n = true := wAll_iff.mpr h
theorem wAll_f {p : Nat → Bool} {n i : Nat} (hi : i < n) (h : p i = false) : wAll p n = false :=
  Bool.eq_false_iff.mpr (fun q => by have := wAll_iff.mp q i hi; rw [h] at this; cases this)
theorem wAll_cong {p q : Nat → Bool} {n : Nat} (h : ∀ i, i < n → p i = q i) : wAll p n = wAll q n := by
  cases h1 : wAll q n
  · obtain ⟨i, hi, hq⟩ : ∃ i, i < n ∧ q i = false := by
      rcases wFind_cases (fun i => !q i) n with ⟨-, h2⟩ | ⟨i, hi, -, h2, -⟩
      · rw [wAll_t (fun i hi => by simpa using h2 i hi)] at h1; cases h1
      · exact ⟨i, hi, by simpa using h2⟩
    exact wAll_f hi (by rw [h i hi]; exact hq)
  · exact wAll_t (fun i hi => by rw [h i hi]; exact wAll_iff.mp h1 i hi)
theorem empty_t {B : Nat → Int64} (h : ∀ i, i < 64 → B i = 0) : wAll (fun s => !sb B s) 4096 = true := wAll_t (fun s hs => by simp [sb_empty.mp h s hs])
theorem empty_f {B : Nat → Int64} {i : Nat} (hi : i < 64) (h : ¬ B i = 0) : wAll (fun s => !sb B s) 4096 = false := by
  obtain ⟨t, ht, h1, -⟩ := lb_first h
  refine wAll_f (i := 64 * i + t) (by omega) ?_
  show (!sb B (64 * i + t)) = false
  unfold sb; rw [show (64 * i + t) / 64 = i by omega, show (64 * i + t) % 64 = t by omega, h1]; rfl
theorem within_t {B C : Nat → Int64} (h : ∀ i, i < 64 → B i &&& (C i ^^^ -1) = 0) : wAll (fun s => !sb B s || sb C s) 4096 = true := wAll_t (fun s hs => by
  have h1 := congrArg (fun x => lb x (s % 64)) (h (s / 64) (sb_lt hs))
  simp only [lb_and, lb_xor, lb_m1 (s % 64) (Nat.mod_lt _ (by decide)), lb_0] at h1
  unfold sb
  cases h2 : lb (B (s / 64)) (s % 64) <;> cases h3 : lb (C (s / 64)) (s % 64) <;> simp_all)
theorem within_f {B C : Nat → Int64} {i : Nat} (hi : i < 64) (h : ¬ B i &&& (C i ^^^ -1) = 0) : wAll (fun s => !sb B s || sb C s) 4096 = false := by
  obtain ⟨t, ht, h1, -⟩ := lb_first h
  rw [lb_and, lb_xor, lb_m1 t ht] at h1
  refine wAll_f (i := 64 * i + t) (by omega) ?_
  show (!sb B (64 * i + t) || sb C (64 * i + t)) = false
  unfold sb; rw [show (64 * i + t) / 64 = i by omega, show (64 * i + t) % 64 = t by omega]
  cases h2 : lb (B i) t <;> cases h3 : lb (C i) t <;> simp_all
