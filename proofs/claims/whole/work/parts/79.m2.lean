/-! ===== words for the class's other calls ===== -/
theorem wIn_gt {r : Int32} {m : Nat} (hm : m < 2 ^ 30) (h : nI m < r) : wIn r (m + 1) = false := by
  refine wIn_ge (by omega) ?_
  rw [Int32.lt_iff_toInt_lt, nI_toInt (by omega)] at h
  rw [Int32.le_iff_toInt_le, nI_toInt (by omega)]; omega
def tgS (P : Nat → Bool) : Nat → Nat × Nat
  | 0 => (0, 0)
  | i + 1 => if (tgS P i).1 < pcN i ∧ P i = true then (pcN i, i) else tgS P i
theorem tgS_le (P : Nat → Bool) : ∀ i, (tgS P i).1 ≤ 8
  | 0 => Nat.zero_le _
  | i + 1 => by
    simp only [tgS]
    split
    · exact wCnt_le _ _
    · exact tgS_le P i
def dgY (M : wm_M) (w h rn yr : Nat) : Int64 := 31 * hFold 17 (fun i => (tal M w h rn i).toInt64) 8 + (nI yr).toInt64
def dgS (M : wm_M) (w h rn s yr : Nat) : Nat → Int64
  | 0 => dgY M w h rn yr
  | k + 1 => hFold (dgS M w h rn s yr k) (fun i => (stTl M s k i).toInt64) 6
def dgK (M : wm_M) (h0 : Int64) : Nat → Int64
  | 0 => h0
  | k + 1 => 31 * (if M.1 95 k = -1 then dgK M h0 k else 31 * dgK M h0 k + (M.1 94 k).toInt64) + (M.1 95 k).toInt64
def dgC (M : wm_M) (w h rn s yr : Nat) : Int64 := tFold (tFold (dgK M (eFold M (tFold (dgS M w h rn s yr (w * h)) (M.1 35) (fun r => M.1 (31 + r)) 4) rn) 3) (M.1 9) (fun r => M.1 (3 + r)) 6) (M.1 16) (fun r => M.1 (12 + r)) 4
theorem wBits_and (p q : Nat → Bool) (n : Nat) : wBits p n &&& wBits q n = wBits (fun l => p l && q l) n := by
  refine Nat.eq_of_testBit_eq (fun i => ?_)
  rw [Nat.testBit_and, wBits_bit, wBits_bit, wBits_bit]
  cases decide (i < n) <;> simp
theorem m1_clamp : (-1 : Int32).toNatClampNeg = 0 := rfl
theorem law_sz {M : wm_M} (h : cLaw M) : ∀ r, r < 4 → (M.1 (29 + 2 + 4) r).toNatClampNeg ≤ 3 := fun r hr => by
  rcases h r hr with q | ⟨z, q, _⟩
  · rw [show M.1 (29 + 2 + 4) r = -1 from q]; exact Nat.zero_le _
  · rw [show M.1 (29 + 2 + 4) r = nI z from q.2.1, nI_clamp (by have := q.2.2.2; omega)]; exact q.2.2.2
theorem row_sz {M : wm_M} (h : cRow M) : ∀ r, r < 6 → (M.1 (1 + 2 + 6) r).toNatClampNeg ≤ 60 := fun r hr => by
  rcases h r hr with q | ⟨z, q2, q⟩
  · rw [show M.1 (1 + 2 + 6) r = -1 from q]; exact Nat.zero_le _
  · rw [show M.1 (1 + 2 + 6) r = nI z from q, nI_clamp (by omega)]; exact q2
theorem txt_sz {M : wm_M} (h : cTxt M) : ∀ r, r < 4 → (M.1 (10 + 2 + 4) r).toNatClampNeg ≤ 80 := fun r hr => by
  rcases h r hr with q | ⟨z, q2, q⟩
  · rw [show M.1 (10 + 2 + 4) r = -1 from q]; exact Nat.zero_le _
  · rw [show M.1 (10 + 2 + 4) r = nI z from q, nI_clamp (by omega)]; exact q2
theorem rec_sz {M : wm_M} {w h rn : Nat} (hR : RecOk M w h rn) (hw : w ≤ 3) (hh : h ≤ 2) : ∀ e, e < rn → (M.1 64 e).toNatClampNeg ≤ 3 := fun e he => by
  obtain ⟨y, st, en, q⟩ := hR.2.2 e he
  have : sLen w h st ≤ 3 := by unfold sLen; split <;> omega
  rw [q.2.2.2.2.2.2, nI_clamp (by omega)]; exact this
def egM (M : wm_M) (rn y st e r z : Nat) : wm_M := wI (wIa (wI (wI (wI (wI M 55 rn (nI y)) 56 rn (nI st)) 57 rn (nI e)) 64 rn (nI z)) (60 + rn) (wTo (M.1 (3 + r)) (M.1 (60 + rn)) z)) 54 0 (nI (rn + 1))
def wyM (M : wm_M) (r n : Nat) (f : Nat → Int32) : wm_M := wIa (wI M 9 r (nI n)) (3 + r) (wTo f (M.1 (3 + r)) n)
def mdM (M : wm_M) (k side : Nat) : Bool := !decide (M.1 18 k = 5) && !decide (M.1 20 k = nI side)
def mdW (M : wm_M) (w h l z s p : Nat) : Int32 := if mdM M (p / 4) (p % 4) then wFind (mdP M w h l z s p) 8 else -9
def mdS (M : wm_M) (w h l z s : Nat) : Int32 := wFind (fun p => !decide (mdW M w h l z s p = -9)) (4 * (w * h))
def MdQ (M : wm_M) (w h l z s : Nat) (v : Option Value) (N : wm_M) : Prop := (mdS M w h l z s = -9 ∧ v = some (.int (-9)) ∧ EqR M N) ∨ ∃ p x, p < 4 * (w * h) ∧ x < 8 ∧ mdS M w h l z s = nI p ∧ mdW M w h l z s p = nI x ∧ v = some (.int (nI (100 * (p / 4) + 10 * (p % 4) + x))) ∧ EqR (tTell M (lyT w h (M.1 18) (upd (M.1 19) p (nI x)) (M.1 (31 + l)) z s (w + h))) N
theorem mdP_fr {M N : wm_M} {w h l z s p x : Nat} (h18 : N.1 18 = M.1 18) (h19 : N.1 19 = M.1 19) (h31 : N.1 (31 + l) = M.1 (31 + l)) : mdP N w h l z s p x = mdP M w h l z s p x := by unfold mdP; rw [h18, h19, h31]
theorem goalB_fr {M N : wm_M} {w h set s : Nat} (h18 : N.1 18 = M.1 18) (hJ : ∀ l, l < 4 → N.2.1 (38 + 2 * l + 1) = M.2.1 (38 + 2 * l + 1)) : goalB N w h set s = goalB M w h set s := by
  unfold goalB; rw [h18]; congr 1
  exact wAll_cong (fun l hl => by rw [hJ l hl])
theorem lastT_fr {M N : wm_M} {y : Nat} (h : N.1 55 = M.1 55) : ∀ n, lastT N y n = lastT M y n
  | 0 => rfl
  | n + 1 => by
    have e : eY N n = eY M n := by unfold eY; rw [h]
    simp only [lastT]; rw [e, lastT_fr h n]
/-! sums -/
theorem wSum_add (f g : Nat → Nat) : ∀ n, wSum (fun i => f i + g i) n = wSum f n + wSum g n
  | 0 => rfl
  | n + 1 => by simp only [wSum]; rw [wSum_add f g n]; omega
theorem wSum_mulc (f : Nat → Nat) (c : Nat) : ∀ n, wSum (fun i => f i * c) n = wSum f n * c
  | 0 => by simp [wSum]
  | n + 1 => by simp only [wSum]; rw [wSum_mulc f c n, Nat.add_mul]
theorem wSum_delta {c t : Nat} : ∀ {n : Nat}, t < n → wSum (fun s => if s = t then c else 0) n = c
  | 0, h => absurd h (Nat.not_lt_zero _)
  | n + 1, h => by
    simp only [wSum]
    by_cases q : n = t
    · subst q; rw [if_pos rfl, wSum_z (fun i hi => if_neg (by omega)), Nat.zero_add]
    · rw [if_neg q, wSum_delta (by omega), Nat.add_zero]
theorem wSum_swap (g : Nat → Nat → Nat) (B : Nat) : ∀ A, wSum (fun s => wSum (fun t => g s t) B) A = wSum (fun t => wSum (fun s => g s t) A) B
  | 0 => (wSum_z (fun _ _ => rfl)).symm
  | A + 1 => by
    simp only [wSum]; rw [wSum_swap g B A, ← wSum_add]
theorem wSum_perm {f σ τ : Nat → Nat} {n : Nat} (h1 : ∀ s, s < n → σ s < n) (h2 : ∀ t, t < n → τ t < n) (h3 : ∀ s, s < n → τ (σ s) = s) (h4 : ∀ t, t < n → σ (τ t) = t) : wSum (fun s => f (σ s)) n = wSum f n := by
  have e1 : wSum (fun s => f (σ s)) n = wSum (fun s => wSum (fun t => if t = σ s then f t else 0) n) n := wSum_cong (fun s hs => by
    rw [show (fun t => if t = σ s then f t else 0) = (fun t => if t = σ s then f (σ s) else 0) by funext t; by_cases q : t = σ s; (rw [if_pos q, if_pos q, q]); (rw [if_neg q, if_neg q])]
    rw [wSum_delta (h1 s hs)])
  rw [e1, wSum_swap]
  refine wSum_cong (fun t ht => ?_)
  rw [wSum_cong (g := fun s => if s = τ t then f t else 0) (fun s hs => by
    by_cases q : s = τ t
    · subst q; rw [if_pos (h4 t ht).symm, if_pos rfl]
    · rw [if_neg q, if_neg (fun e => q (by rw [e, h3 s hs]))]), wSum_delta (h2 t ht)]
theorem wSum_mv {f : Nat → Nat} {m j q : Nat} (hm : m ≤ 6) (hj : j < m) (hq : q ≤ 4) : wSum (fun s => f (sMv s j q)) (4 ^ m) = wSum f (4 ^ m) :=
  wSum_perm (σ := fun s => sMv s j q) (τ := fun s => sMv s j (4 - q)) (fun s hs => sMv_lt hs hj) (fun s hs => sMv_lt hs hj) (fun s hs => sMv_inv (by omega) (by omega)) (fun s hs => sMv_inv (by omega) (by omega))
def mvC (kd : Nat → Int32) (m : Nat) : Nat := 1 + wCnt (fun j => decide (0 < sStep (kd j))) m
theorem wCnt_not (p : Nat → Bool) : ∀ n, wCnt p n + wCnt (fun i => !p i) n = n
  | 0 => rfl
  | n + 1 => by
    have := wCnt_not p n
    simp only [wCnt]
    by_cases q : p n = true
    · rw [if_pos q, if_neg (by simp [q])]; omega
    · rw [if_neg q, if_pos (by simpa using q)]; omega
theorem chN_mvC (kd : Nat → Int32) (m : Nat) : chN kd m = mvC kd m := by
  unfold chN mvC
  have h := wCnt_not (fun k => isOfB (kd k) 2) m
  rw [wCnt_cong (p := fun j => decide (0 < sStep (kd j))) (q := fun i => !isOfB (kd i) 2) (fun i _ => by
    rw [isOfB_fix]; unfold sStep
    by_cases q : sFix (kd i) = true
    · rw [if_pos q, q]; rfl
    · rw [if_neg q, show sFix (kd i) = false by simpa using q]; split <;> rfl)]
  omega
theorem wSum_if (p : Nat → Bool) (c : Nat) : ∀ n, wSum (fun j => if p j then c else 0) n = wCnt p n * c
  | 0 => by simp [wSum, wCnt]
  | n + 1 => by
    simp only [wSum, wCnt]; rw [wSum_if p c n, Nat.add_mul]
    cases p n <;> simp
theorem wy_s_le (kd : Nat → Int32) {m : Nat} (hm : m ≤ 6) (L : Nat → Nat → Bool) (k : Nat) : wSum (wyN kd m L (k + 1)) (4 ^ m) ≤ wSum (wyN kd m L k) (4 ^ m) * mvC kd m := by
  have h1 : wSum (wyN kd m L (k + 1)) (4 ^ m) ≤ wSum (fun s => wyN kd m L k s + wSum (fun j => if 0 < sStep (kd j) then wyN kd m L k (sMv s j (4 - sStep (kd j))) else 0) m) (4 ^ m) := wSum_le2 (fun s _ => by
    simp only [wyN]; split
    · exact Nat.le_refl _
    · exact Nat.zero_le _)
  refine Nat.le_trans h1 ?_
  have e2 : wSum (fun s => wSum (fun j => if 0 < sStep (kd j) then wyN kd m L k (sMv s j (4 - sStep (kd j))) else 0) m) (4 ^ m) = wCnt (fun j => decide (0 < sStep (kd j))) m * wSum (wyN kd m L k) (4 ^ m) := by
    rw [wSum_swap, ← wSum_if]
    refine wSum_cong (fun j hj => ?_)
    by_cases q : 0 < sStep (kd j)
    · rw [decide_eq_true q, if_pos rfl, wSum_cong (g := fun s => wyN kd m L k (sMv s j (4 - sStep (kd j)))) (fun s _ => if_pos q)]
      exact wSum_mv hm hj (by omega)
    · rw [decide_eq_false q]
      exact wSum_z (fun s _ => if_neg q)
  rw [wSum_add, e2]
  unfold mvC
  rw [Nat.mul_add, Nat.mul_one, Nat.mul_comm (wCnt _ _)]
  exact Nat.le_refl _
theorem wy_le (kd : Nat → Int32) {m : Nat} (hm : m ≤ 6) (L : Nat → Nat → Bool) : ∀ k, wSum (wyN kd m L k) (4 ^ m) ≤ mvC kd m ^ k
  | 0 => by
    have h : wSum (wyN kd m L 0) (4 ^ m) ≤ wSum (fun s => if s = 0 then 1 else 0) (4 ^ m) := wSum_le2 (fun s _ => by
      simp only [wyN]; split
      · exact Nat.le_refl _
      · exact Nat.zero_le _)
    rw [wSum_delta (Nat.pow_pos (by decide))] at h
    exact h
  | k + 1 => Nat.le_trans (wy_s_le kd hm L k) (by rw [Nat.pow_succ]; exact Nat.mul_le_mul_right _ (wy_le kd hm L k))
theorem wy_bound (kd : Nat → Int32) {m n last : Nat} (hm : m ≤ 6) (hn : n ≤ 9) (hl : last ≤ n) (L : Nat → Nat → Bool) : wSum (wyN kd m L last) (4 ^ m) * chN kd m ^ (n - last) ≤ 40353607 := by
  rw [chN_mvC]
  refine Nat.le_trans (Nat.mul_le_mul_right _ (wy_le kd hm L last)) ?_
  rw [← Nat.pow_add, show last + (n - last) = n by omega]
  have h7 : mvC kd m ≤ 7 := by unfold mvC; have := wCnt_le (fun j => decide (0 < sStep (kd j))) m; omega
  refine Nat.le_trans (Nat.pow_le_pow_left h7 n) ?_
  exact Nat.le_trans (Nat.pow_le_pow_right (by decide) hn) (by decide)
def hvN (M : wm_M) (w h rn n : Nat) : Nat := wSum (wyN (M.1 18) (w * h) (kpB (fun k s => lvB M w h rn n (n - k) s) (-9) (fun _ => true)) (lastT M n rn)) (4 ^ (w * h)) * chN (M.1 18) (w * h) ^ (n - lastT M n rn)
def ovN (M : wm_M) (w h rn n y l : Nat) : Nat := wSum (wyN (M.1 18) (w * h) (kpB (fun k s => lvB M w h rn n (n - k) s) (nI y) (sb (M.2.1 (38 + 2 * l + 1)))) (max y (lastT M n rn))) (4 ^ (w * h)) * chN (M.1 18) (w * h) ^ (n - max y (lastT M n rn))
theorem wyN_cong {kd : Nat → Int32} {m : Nat} {L L2 : Nat → Nat → Bool} : ∀ (k : Nat), m ≤ 6 → (∀ j, j ≤ k → ∀ s, s < 4 ^ m → L j s = L2 j s) → ∀ s, s < 4 ^ m → wyN kd m L k s = wyN kd m L2 k s
  | 0, _, h, s, hs => by simp only [wyN]; rw [h 0 (Nat.le_refl _) s hs]
  | k + 1, hm, h, s, hs => by
    simp only [wyN]
    rw [h (k + 1) (Nat.le_refl _) s hs, wyN_cong k hm (fun j hj => h j (by omega)) s hs, wSum_cong (fun j hj => by
      rw [wyN_cong k hm (fun j hj => h j (by omega)) _ (sMv_lt hs hj)])]
