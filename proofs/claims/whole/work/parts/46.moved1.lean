theorem mm_t {B C : Nat → Int64} {st q : Nat} (hst : st < 6) (hq : q < 4) (hq1 : 1 ≤ q) (h : ∀ i, i < 64 → B i &&& mvB C st q i = 0) : wAll (fun s => !(sb B s && sb C (sMv s st (4 - q)))) 4096 = true := wAll_t (fun s hs => by
  have h1 := congrArg (fun x => lb x (s % 64)) (h (s / 64) (sb_lt hs))
  simp only [lb_and, lb_0] at h1
  rw [sb_moved hst hq hq1 hs] at h1
  unfold sb at h1 ⊢
  simp only [Bool.not_eq_true']
  exact h1)
theorem mm_f {B C : Nat → Int64} {st q i : Nat} (hst : st < 6) (hq : q < 4) (hq1 : 1 ≤ q) (hi : i < 64) (h : ¬ B i &&& mvB C st q i = 0) : wAll (fun s => !(sb B s && sb C (sMv s st (4 - q)))) 4096 = false := by
  obtain ⟨t, ht, h1, -⟩ := lb_first h
  rw [lb_and] at h1
  refine wAll_f (i := 64 * i + t) (by omega) ?_
  have h2 := sb_moved (B := C) hst hq hq1 (show 64 * i + t < 4096 by omega)
  rw [show (64 * i + t) / 64 = i by omega, show (64 * i + t) % 64 = t by omega] at h2
  show (!(sb B (64 * i + t) && sb C (sMv (64 * i + t) st (4 - q)))) = false
  rw [← h2]
  show (!(lb (B ((64 * i + t) / 64)) ((64 * i + t) % 64) && _)) = false
  rw [show (64 * i + t) / 64 = i by omega, show (64 * i + t) % 64 = t by omega, h1]; rfl
