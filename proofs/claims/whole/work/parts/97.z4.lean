/-! ===== the reference: contest ===== -/
theorem dt2_sh (b : Bool) : wm_sh (wm_dt 2 b) = .inr (3, 4096, 0, 0) := by cases b <;> rfl
theorem dt2_ne (b : Bool) : wm_dt 2 b ≠ wm_dt 2 (!b) := by cases b <;> simp [wm_dt]
theorem dt2_78 (b : Bool) : wm_dt 2 b = 117 ∨ wm_dt 2 b = 118 := by cases b <;> simp [wm_dt]
theorem nar_z (b : Bool) : vp_nar .boolean (wB b) = wB b := by cases b <;> decide
def FrK (M N : wm_M) : Prop := (∀ c, c ≠ 117 → c ≠ 118 → N.1 c = M.1 c) ∧ N.2.1 = M.2.1 ∧ ∀ d, d < 2 → N.2.2 d = M.2.2 d
theorem FrK.rf (M : wm_M) : FrK M M := ⟨fun _ _ _ => rfl, rfl, fun _ _ => rfl⟩
theorem FrK.tr {M N O : wm_M} (h : FrK M N) (k : FrK N O) : FrK M O := ⟨fun c a b => (k.1 c a b).trans (h.1 c a b), k.2.1.trans h.2.1, fun d hd => (k.2.2 d hd).trans (h.2.2 d hd)⟩
theorem FrK.I {M : wm_M} {b : Bool} {f : Nat → Int32} : FrK M (wIa M (wm_dt 2 b) f) := ⟨fun c h1 h2 => wIa_n (fun e => by rcases dt2_78 b with q | q <;> rw [q] at e <;> omega), rfl, fun _ _ => rfl⟩
theorem FrK.D {M : wm_M} {d : Nat} {b : Bool} (hd : 2 ≤ d) : FrK M (wD M d b) := ⟨fun _ _ _ => rfl, rfl, fun d' hd' => wD_n (by omega)⟩
theorem FrK.x {M N : wm_M} (h : FrK M N) (hd : xDyn N) : FrX M N := ⟨fun c hc => h.1 c (fun e => by rw [e] at hc; cases hc) (fun e => by rw [e] at hc; cases hc), fun j _ => by rw [h.1 96 (by decide) (by decide)], fun c _ => by rw [h.2.1], fun j _ => by rw [h.2.1], h.2.2, fun _ => hd⟩
theorem FrK.stn {C M N : wm_M} {w h : Nat} (k : FrK M N) (q : xStn C M w h) : xStn C N w h := q.fr (by rw [k.1 96 (by decide) (by decide)]) (by rw [k.1 96 (by decide) (by decide)]) (by rw [k.1 96 (by decide) (by decide)]) (k.1 103 (by decide) (by decide)) (k.1 104 (by decide) (by decide)) (k.1 105 (by decide) (by decide)) (k.1 106 (by decide) (by decide)) rfl rfl rfl rfl
def wnP (kd : Nat → Int32) (f : Nat → Bool) (first : Bool) (t k : Nat) : Bool := if first then f t || wAny (fun k => decide (0 < sStep (kd k)) && f (sMv t k (sStep (kd k)))) k else f t && wAll (fun k => !decide (0 < sStep (kd k)) || f (sMv t k (sStep (kd k)))) k
theorem wnP_0 (kd : Nat → Int32) (f : Nat → Bool) (first : Bool) (t : Nat) : wnP kd f first t 0 = f t := by unfold wnP; rw [wAny_0, wAll_0]; cases first <;> simp
theorem wnP_n (kd : Nat → Int32) (f : Nat → Bool) (first : Bool) (t m : Nat) : wnP kd f first t m = wnB kd m f first t := rfl
theorem wnP_fix {kd : Nat → Int32} {f : Nat → Bool} {first : Bool} {t k : Nat} (h : sFix (kd k) = true) : wnP kd f first t (k + 1) = wnP kd f first t k := by
  have h0 : sStep (kd k) = 0 := by unfold sStep; rw [if_pos h]
  unfold wnP; rw [wAny_s, wAll_s, h0]; simp
theorem step_pos {x : Int32} (h : sFix x = false) : 0 < sStep x := by unfold sStep; rw [if_neg (show ¬ sFix x = true by rw [h]; decide)]; split <;> omega
theorem wnP_mv {kd : Nat → Int32} {f : Nat → Bool} {first : Bool} {t k : Nat} (h : sFix (kd k) = false) : wnP kd f first t (k + 1) = if first then wnP kd f first t k || f (sMv t k (sStep (kd k))) else wnP kd f first t k && f (sMv t k (sStep (kd k))) := by
  unfold wnP; rw [wAny_s, wAll_s, decide_eq_true (step_pos h)]
  cases first <;> simp [Bool.or_assoc, Bool.and_assoc]
theorem m1_lt {m f : Nat} (hm : m < 2 ^ 29) (hf : f < 2 ^ 29) : nI m - 1 < nI f ↔ m < f + 1 := ls_iff (z := 1) hm (by decide) hf
theorem m1_n {m : Nat} (h : 1 ≤ m) : nI m - 1 = nI (m - 1) := pk_sub (b := 1) h
theorem m1_dec {m : Nat} (h : 1 ≤ m) : nI m - 1 + Int32.ofInt (-1) = nI (m - 1) - 1 := by
  rw [m1_n h]
  show nI (m - 1) + (-1) = _
  rw [Int32.sub_eq_add_neg]
theorem m1_neg {m : Nat} (hm : m < 2 ^ 29) : nI m - 1 < 0 ↔ m = 0 := by
  have := m1_lt (f := 0) hm (by decide)
  constructor
  · intro q; have := this.mp q; omega
  · intro q; exact this.mpr (by omega)
/-- the least stone from m on -/
def fdK (q : Nat → Bool) (n m : Nat) : Int32 := wFind (fun k => decide (m ≤ k) && q k) n
theorem fdK_n (q : Nat → Bool) (n : Nat) : fdK q n n = -9 := wFind_none (fun j hj => by rw [decide_eq_false (by omega)]; rfl)
theorem fdK_0 (q : Nat → Bool) (n : Nat) : fdK q n 0 = wFind q n := wFind_cong (fun i _ => by rw [decide_eq_true (Nat.zero_le _)]; rfl)
theorem fdK_t {q : Nat → Bool} {n m : Nat} (hm : 1 ≤ m) (hn : m ≤ n) (h : q (m - 1) = true) : fdK q n (m - 1) = nI (m - 1) := wFind_some (by omega) (by rw [decide_eq_true (Nat.le_refl _), h]; rfl) (fun j hj => by rw [decide_eq_false (by omega)]; rfl)
theorem fdK_f {q : Nat → Bool} {n m : Nat} (hm : 1 ≤ m) (h : q (m - 1) = false) : fdK q n (m - 1) = fdK q n m := wFind_cong (fun i _ => by
  by_cases e : i = m - 1
  · subst e; rw [h, Bool.and_false, Bool.and_false]
  · by_cases e2 : m ≤ i
    · rw [decide_eq_true e2, decide_eq_true (by omega)]
    · rw [decide_eq_false e2, decide_eq_false (by omega)])
def ctF (C : wm_M) (w h l : Nat) : Nat → Bool := fun t => decide (2 ≤ lvQ C w h t l)
def ctQ (C : wm_M) (w h l n s k : Nat) : Bool := !sFix (C.1 18 k) && wnI (C.1 18) (w * h) (ctF C w h l) n (n - 1) (sMv s k (sStep (C.1 18 k)))
def ctC (C : wm_M) (w h l n s : Nat) : Bool := wnI (C.1 18) (w * h) (ctF C w h l) n n s
def ctO (C : wm_M) (w h l n s : Nat) : Int32 := if ctC C w h l n s = true ∧ 0 < n then wFind (ctQ C w h l n s) (w * h) else -9
