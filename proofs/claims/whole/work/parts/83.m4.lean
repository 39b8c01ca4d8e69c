/-! ===== words for the class's last calls ===== -/
def gCnt (M : wm_M) (w h set : Nat) : Nat := wCnt (goalB M w h set) 4096
theorem wCnt_pos {p : Nat → Bool} {i : Nat} : ∀ {n : Nat}, i < n → p i = true → 0 < wCnt p n
  | 0, h, _ => absurd h (Nat.not_lt_zero _)
  | n + 1, h, hp => by
    simp only [wCnt]
    by_cases q : i = n
    · subst q; rw [if_pos hp]; omega
    · have := wCnt_pos (n := n) (by omega) hp; omega
theorem gCnt_le (M : wm_M) (w h set : Nat) : gCnt M w h set ≤ 4096 := wCnt_le _ _
theorem gCnt_pos {M : wm_M} {w h : Nat} (hn : w * h ≤ 6) : 0 < gCnt M w h 0 := by
  refine wCnt_pos (i := 0) (by decide) ?_
  unfold goalB; rw [(hd_0 (M.1 18) hn).2, Bool.true_and]
  exact wAll_t (fun l _ => by rw [Nat.zero_testBit]; rfl)
theorem tgS_t {P : Nat → Bool} {i : Nat} (h : (tgS P i).1 < pcN i) (h2 : P i = true) : tgS P (i + 1) = (pcN i, i) := if_pos ⟨h, h2⟩
theorem tgS_f1 {P : Nat → Bool} {i : Nat} (h : ¬ (tgS P i).1 < pcN i) : tgS P (i + 1) = tgS P i := if_neg (fun q => h q.1)
theorem tgS_f2 {P : Nat → Bool} {i : Nat} (h : P i = false) : tgS P (i + 1) = tgS P i := if_neg (fun q => by rw [h] at q; exact absurd q.2 (by decide))
def tgP (M : wm_M) (w h : Nat) : Nat → Bool := fun set => wAny (goalB M w h set) 4096
theorem tgS_1 (P : Nat → Bool) : tgS P 1 = (0, 0) := if_neg (fun q => absurd q.1 (show ¬ 0 < pcN 0 by decide))
theorem meets_any (p : Nat → Bool) : (!decide (wFind p 4096 = -9)) = wAny p 4096 := by
  by_cases h : wFind p 4096 = -9
  · rw [decide_eq_true h, wFind_nany h (by decide)]; rfl
  · rw [decide_eq_false h, wFind_any h]; rfl
/-- the states of year k in some history of n years -/
def lvY (M : wm_M) (w h rn n k s : Nat) : Bool := lvB M w h rn n (n - k) s
def whA (M : wm_M) (w h rn n l k : Nat) : Bool := wAll (fun s => !lvY M w h rn n k s || sb (M.2.1 (38 + 2 * l + 1)) s) 4096
def whS (M : wm_M) (w h rn n l k : Nat) : Bool := wAny (fun s => lvY M w h rn n k s && sb (M.2.1 (38 + 2 * l + 1)) s) 4096
def tnB (M : wm_M) (w h rn n k : Nat) : Bool := wAny (fun s => lvY M w h rn n (k - 1) s && lvY M w h rn n k s) 4096
def tuB (M : wm_M) (w h rn n k j : Nat) : Bool := decide (0 < sStep (M.1 18 j)) && wAny (fun s => lvY M w h rn n k s && lvY M w h rn n (k - 1) (sMv s j (4 - sStep (M.1 18 j)))) 4096
theorem hv_eq {M N : wm_M} {w h rn n : Nat} {T : Nat → Bool} (h18 : N.1 18 = M.1 18) (h55 : N.1 55 = M.1 55) (hn6 : w * h ≤ 6) (hn : n ≤ 9) : wSum (wyN (N.1 18) (w * h) (kpB (fun k s => lvB M w h rn n (n - k) s) (-9) T) (lastT N n rn)) (4 ^ (w * h)) * chN (N.1 18) (w * h) ^ (n - lastT N n rn) = hvN M w h rn n := by
  unfold hvN; rw [h18, lastT_fr h55]; congr 1
  have hl := lastT_le M n rn
  exact wSum_cong (fun s hs => wyN_cong _ hn6 (fun j hj s hs => by
    unfold kpB; rw [decide_eq_false (fun e => nI_ne9 (p := j) (by omega) e.symm)]; simp) s hs)
theorem ov_eq {M N : wm_M} {w h rn n y l : Nat} (h18 : N.1 18 = M.1 18) (h55 : N.1 55 = M.1 55) (hJ : N.2.1 (38 + 2 * l + 1) = M.2.1 (38 + 2 * l + 1)) : wSum (wyN (N.1 18) (w * h) (kpB (fun k s => lvB M w h rn n (n - k) s) (nI y) (sb (N.2.1 (38 + 2 * l + 1)))) (max y (lastT N n rn))) (4 ^ (w * h)) * chN (N.1 18) (w * h) ^ (n - max y (lastT N n rn)) = ovN M w h rn n y l := by
  unfold ovN; rw [h18, lastT_fr h55, hJ]
theorem hv_le {M : wm_M} {w h rn n : Nat} (hn6 : w * h ≤ 6) (hn : n ≤ 9) : hvN M w h rn n ≤ 40353607 := wy_bound _ hn6 hn (lastT_le _ _ _) _
theorem ov_le {M : wm_M} {w h rn n y l : Nat} (hn6 : w * h ≤ 6) (hn : n ≤ 9) (hy : y ≤ n) : ovN M w h rn n y l ≤ 40353607 := wy_bound _ hn6 hn (by have := lastT_le M n rn; omega) _
/-- till: does the law stand behind i of the row's turns -/
def tlP (M : wm_M) (f : Nat → Int32) (s l i : Nat) : Bool := sb (M.2.1 (38 + 2 * l + 1)) (rwS M f s i)
def tlN (M : wm_M) (f : Nat → Int32) (s l z : Nat) : Nat := if wFind (tlP M f s l) (z + 1) = -9 then z else (wFind (tlP M f s l) (z + 1)).toNatClampNeg
theorem tlN_some {M : wm_M} {f : Nat → Int32} {s l z i : Nat} (hi : i < 2 ^ 31) (h : wFind (tlP M f s l) (z + 1) = nI i) : tlN M f s l z = i := by
  unfold tlN; rw [h, if_neg (nI_ne9 hi), nI_clamp hi]
theorem tlN_none {M : wm_M} {f : Nat → Int32} {s l z : Nat} (h : wFind (tlP M f s l) (z + 1) = -9) : tlN M f s l z = z := if_pos h
theorem mvS_fr {M N : wm_M} {s : Nat} {x : Int32} (h18 : N.1 18 = M.1 18) : mvS N s x = mvS M s x := by unfold mvS; rw [h18]
theorem mtB_fr {M N : wm_M} {n : Nat} {x : Int32} (h18 : N.1 18 = M.1 18) : mtB N n x = mtB M n x := by unfold mtB; rw [h18]
/-- lost: the laws that stand in s; in all states of the line up to its place i -/
def stB (M : wm_M) (s l : Nat) : Bool := sb (M.2.1 (38 + 2 * l + 1)) s
def alB (M : wm_M) (f : Nat → Int32) (s i l : Nat) : Bool := wAll (fun j => stB M (rwS M f s j) l) (i + 1)
theorem alB_s (M : wm_M) (f : Nat → Int32) (s i l : Nat) : alB M f s (i + 1) l = (alB M f s i l && stB M (rwS M f s (i + 1)) l) := wAll_s _ _
theorem lo_bits : ∀ a, a < 16 → ∀ b, b < 16 → nI a &&& (nI b ^^^ -1) = nI (a - (a &&& b)) := by decide +kernel
theorem wBits_sub (p q : Nat → Bool) : ∀ n, wBits p n - (wBits p n &&& wBits q n) = wBits (fun l => p l && !q l) n := fun n => by
  rw [wBits_and]
  have key : ∀ n, wBits p n = wBits (fun l => p l && q l) n + wBits (fun l => p l && !q l) n := by
    intro n
    induction n with
    | zero => rfl
    | succ n ih =>
      have e : ∀ (a b : Bool) (x : Nat), (if a = true then x else 0) = (if (a && b) = true then x else 0) + (if (a && !b) = true then x else 0) := by
        intro a b x; cases a <;> cases b <;> simp
      simp only [wBits]
      rw [ih, e (p n) (q n)]; omega
  have := key n; omega
theorem rwS_had {M : wm_M} {n s : Nat} {f : Nat → Int32} (hn : n ≤ 6) (h : hadS M n s) (i : Nat) (hm : ∀ j, j < i → mtB M n (f j) = true) : rwS M f s i < 4096 := Nat.lt_of_lt_of_le (hd_rwS hn h i hm).1 (p4_le hn)
/-- the line's stones may be turned -/
theorem ln_mt {M : wm_M} {m s t : Nat} (hm : m ≤ 6) (hs : hadS M m s) (ht : hadS M m t) {i : Nat} (hi : i < dst (M.1 18) m s t) : mtB M m (lnF (M.1 18) m s t i) = true := by
  have hk := lnK_lt (tb := tbt (M.1 18) s t) (m := m) (i := i) hi
  have : ∀ k, k ≤ m → i < wSum (tbt (M.1 18) s t) k → ∃ j, j < k ∧ wSum (tbt (M.1 18) s t) j ≤ i ∧ i < wSum (tbt (M.1 18) s t) (j + 1) := by
    intro k
    induction k with
    | zero => intro _ h0; exact absurd h0 (Nat.not_lt_zero _)
    | succ k ih =>
      intro hk h0
      by_cases q : i < wSum (tbt (M.1 18) s t) k
      · obtain ⟨j, a, b, c⟩ := ih (by omega) q; exact ⟨j, by omega, b, c⟩
      · exact ⟨k, by omega, by omega, h0⟩
  obtain ⟨j, a, b, c⟩ := this m (Nat.le_refl _) hi
  have e := lnK_at a b c
  have hp : 0 < tbt (M.1 18) s t j := by simp only [wSum] at c; omega
  have h2 := (dst_bk hm hs.hd ht.hd a hp).1
  unfold mtB lnF
  rw [e, wIn_nI (by omega), decide_eq_true a, nI_clamp (by omega)]
  have h3 : sFix (M.1 18 j) = false := by
    cases q : sFix (M.1 18 j) with
    | false => rfl
    | true => unfold sStep at h2; rw [if_pos q] at h2; exact absurd h2 (by decide)
  rw [h3]; simp
theorem ln_at {M : wm_M} {m s t k q : Nat} (hk : k < m) (hq : q < tbt (M.1 18) s t k) : lnF (M.1 18) m s t (wSum (tbt (M.1 18) s t) k + q) = nI k := by
  unfold lnF; rw [lnK_at hk (by omega) (by simp only [wSum]; omega)]
theorem rw_ln {M : wm_M} {m s t k q : Nat} (hm : m ≤ 6) (hk : k < m) (hq : q < tbt (M.1 18) s t k) : rwS M (lnF (M.1 18) m s t) s (wSum (tbt (M.1 18) s t) k + q + 1) = sMv (rwS M (lnF (M.1 18) m s t) s (wSum (tbt (M.1 18) s t) k + q)) k (sStep (M.1 18 k)) := by
  rw [rwS_s]; unfold mvS
  rw [ln_at hk hq, if_neg (nI_ne9 (by omega)), nI_clamp (by omega)]
theorem tbt_3 {kd : Nat → Int32} {s t k : Nat} : tbt kd s t k ≤ 3 := by unfold tbt; split <;> omega
theorem g_bd {ch : Nat → Int32} {sz : Nat} (h : gOk ch sz) : 1 ≤ gW ch sz ∧ gW ch sz ≤ 3 ∧ 1 ≤ gH ch sz ∧ gH ch sz ≤ 2 := ⟨(gW_of h.2.1).2.1, (gW_of h.2.1).2.2, (gH_of h.2.2).2.1, (gH_of h.2.2).2.2⟩
