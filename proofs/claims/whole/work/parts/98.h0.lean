/-! ===== histories: the sets of one side, the counts of the other ===== -/
theorem sStep_2 (x : Int32) : sStep x ≤ 2 := by rcases st_cases x with q | q | q <;> omega
theorem mv_bk {kd : Nat → Int32} {t j : Nat} (hj : j < 6) : sMv (sMv t j (4 - sStep (kd j))) j (sStep (kd j)) = t := sMv_inv hj (by have := sStep_2 (kd j); omega)
theorem bk_mv {kd : Nat → Int32} {t j : Nat} (hj : j < 6) : sMv (sMv t j (sStep (kd j))) j (4 - sStep (kd j)) = t := sMv_inv hj (by have := sStep_2 (kd j); omega)
section HIS
variable {kd : Nat → Int32} {m : Nat} {fit : Nat → Nat → Bool}
theorem F_had (hm : m ≤ 6) : ∀ {k t : Nat}, t < 4 ^ m → 0 < wyN kd m fit k t → hdB kd m t
  | 0, t, _, h => by
    simp only [wyN] at h
    have : t = 0 := by
      by_cases q : t = 0
      · exact q
      · rw [if_neg q] at h; split at h <;> omega
    subst this; exact hd_0 kd hm
  | k + 1, t, ht, h => by
    simp only [wyN] at h
    split at h
    · rcases Nat.eq_zero_or_pos (wyN kd m fit k t) with q | q
      · rw [q, Nat.zero_add] at h
        obtain ⟨j, hj, hp⟩ := wSum_pos h
        split at hp
        · have := hd_mv (F_had hm (sMv_lt ht hj) hp) hm hj
          rw [mv_bk (by omega)] at this; exact this
        · omega
      · exact F_had hm ht q
    · omega
theorem F_s {k t : Nat} (hf : fit (k + 1) t = true) : wyN kd m fit (k + 1) t = wyN kd m fit k t + wSum (fun j => if 0 < sStep (kd j) then wyN kd m fit k (sMv t j (4 - sStep (kd j))) else 0) m := if_pos hf
theorem F_fit {k t : Nat} (h : 0 < wyN kd m fit k t) : fit k t = true := by
  cases q : fit k t with
  | true => rfl
  | false => rw [wyN_pre, q, if_neg (by decide)] at h; omega
theorem swp (hm : m ≤ 6) (X B : Nat → Nat) : wSum (fun t => X t * (B t + wSum (fun j => if 0 < sStep (kd j) then B (sMv t j (sStep (kd j))) else 0) m)) (4 ^ m) = wSum (fun t => (X t + wSum (fun j => if 0 < sStep (kd j) then X (sMv t j (4 - sStep (kd j))) else 0) m) * B t) (4 ^ m) := by
  have e1 : ∀ t, X t * (B t + wSum (fun j => if 0 < sStep (kd j) then B (sMv t j (sStep (kd j))) else 0) m) = X t * B t + wSum (fun j => (if 0 < sStep (kd j) then B (sMv t j (sStep (kd j))) else 0) * X t) m := fun t => by
    rw [wSum_mulc, Nat.mul_add, Nat.mul_comm (X t) (wSum _ m)]
  have e2 : ∀ t, (X t + wSum (fun j => if 0 < sStep (kd j) then X (sMv t j (4 - sStep (kd j))) else 0) m) * B t = X t * B t + wSum (fun j => (if 0 < sStep (kd j) then X (sMv t j (4 - sStep (kd j))) else 0) * B t) m := fun t => by
    rw [wSum_mulc, Nat.add_mul]
  rw [wSum_cong (fun t _ => e1 t), wSum_cong (fun t _ => e2 t), wSum_add, wSum_add]
  congr 1
  refine (wSum_swap (fun t j => (if 0 < sStep (kd j) then B (sMv t j (sStep (kd j))) else 0) * X t) m (4 ^ m)).trans (Eq.trans ?_ (wSum_swap (fun t j => (if 0 < sStep (kd j) then X (sMv t j (4 - sStep (kd j))) else 0) * B t) m (4 ^ m)).symm)
  refine wSum_cong (fun j hj => ?_)
  by_cases q : 0 < sStep (kd j)
  · have e3 := wSum_mv (f := fun t => X (sMv t j (4 - sStep (kd j))) * B t) (q := sStep (kd j)) hm hj (by have := sStep_2 (kd j); omega)
    have e4 : wSum (fun t => (if 0 < sStep (kd j) then X (sMv t j (4 - sStep (kd j))) else 0) * B t) (4 ^ m) = wSum (fun t => X (sMv t j (4 - sStep (kd j))) * B t) (4 ^ m) := wSum_cong (fun t _ => by rw [if_pos q])
    refine Eq.trans ?_ e4.symm
    rw [← e3]
    exact wSum_cong (fun t _ => by rw [if_pos q, bk_mv (by omega), Nat.mul_comm])
  · rw [wSum_cong (g := fun _ => 0) (fun t _ => by rw [if_neg q, Nat.zero_mul])]
    exact (wSum_cong (fun t _ => by rw [if_neg q, Nat.zero_mul])).symm
variable {n : Nat}
abbrev aF (kd : Nat → Int32) (m : Nat) (fit : Nat → Nat → Bool) : Nat → Nat → Bool := fun y t => decide (0 < wyN kd m fit y t)
theorem on_st {k t : Nat} (hk : k < n) : onN kd m (aF kd m fit) n (n - k) t = if 0 < wyN kd m fit k t then onN kd m (aF kd m fit) n (n - (k + 1)) t + wSum (fun j => if 0 < sStep (kd j) then onN kd m (aF kd m fit) n (n - (k + 1)) (sMv t j (sStep (kd j))) else 0) m else 0 := by
  obtain ⟨d, hd⟩ : ∃ d, n - k = d + 1 := ⟨n - k - 1, by omega⟩
  rw [hd, show n - (k + 1) = d by omega]
  simp only [onN]
  rw [show n - (d + 1) = k by omega]
  by_cases q : 0 < wyN kd m fit k t
  · rw [if_pos q, if_pos (decide_eq_true q)]
  · rw [if_neg q, if_neg (by simp [aF, q])]
theorem on_A {k t : Nat} (hk : k ≤ n) (h : 0 < onN kd m (aF kd m fit) n (n - k) t) : 0 < wyN kd m fit k t := by
  rcases Nat.lt_or_ge k n with q | q
  · rw [on_st q] at h
    split at h
    · assumption
    · omega
  · have : k = n := by omega
    subst this
    rw [Nat.sub_self] at h
    simp only [onN] at h
    split at h
    · rename_i c; exact of_decide_eq_true c
    · omega
theorem st_sum (hm : m ≤ 6) {L : Nat → Nat → Bool} (hL : ∀ k t, k ≤ n → t < 4 ^ m → L k t = true → 0 < onN kd m (aF kd m fit) n (n - k) t) {k : Nat} (hk : k < n) (hy : ∀ t, t < 4 ^ m → L (k + 1) t = decide (0 < onN kd m (aF kd m fit) n (n - (k + 1)) t)) : wSum (fun t => wyN kd m L k t * onN kd m (aF kd m fit) n (n - k) t) (4 ^ m) = wSum (fun t => wyN kd m L (k + 1) t * onN kd m (aF kd m fit) n (n - (k + 1)) t) (4 ^ m) := by
  have e1 : ∀ t, t < 4 ^ m → wyN kd m L k t * onN kd m (aF kd m fit) n (n - k) t = wyN kd m L k t * (onN kd m (aF kd m fit) n (n - (k + 1)) t + wSum (fun j => if 0 < sStep (kd j) then onN kd m (aF kd m fit) n (n - (k + 1)) (sMv t j (sStep (kd j))) else 0) m) := fun t ht => by
    by_cases q : 0 < wyN kd m fit k t
    · rw [on_st hk, if_pos q]
    · have : wyN kd m L k t = 0 := by
        rw [wyN_pre]
        refine if_neg (fun c => q (on_A (by omega) (hL k t (by omega) ht c)))
      rw [this, Nat.zero_mul, Nat.zero_mul]
  have e2 : ∀ t, t < 4 ^ m → wyN kd m L (k + 1) t * onN kd m (aF kd m fit) n (n - (k + 1)) t = (wyN kd m L k t + wSum (fun j => if 0 < sStep (kd j) then wyN kd m L k (sMv t j (4 - sStep (kd j))) else 0) m) * onN kd m (aF kd m fit) n (n - (k + 1)) t := fun t ht => by
    simp only [wyN]
    rw [hy t ht]
    by_cases q : 0 < onN kd m (aF kd m fit) n (n - (k + 1)) t
    · rw [if_pos (decide_eq_true q)]
    · rw [show onN kd m (aF kd m fit) n (n - (k + 1)) t = 0 by omega, Nat.mul_zero, Nat.mul_zero]
  rw [wSum_cong e1, wSum_cong e2]
  exact swp hm _ _
theorem it_sum (hm : m ≤ 6) {L : Nat → Nat → Bool} {y0 : Nat} (hL : ∀ k t, k ≤ n → t < 4 ^ m → L k t = true → 0 < onN kd m (aF kd m fit) n (n - k) t) (hy : ∀ k t, y0 < k → k ≤ n → t < 4 ^ m → L k t = decide (0 < onN kd m (aF kd m fit) n (n - k) t)) : ∀ d, y0 + d ≤ n → wSum (fun t => wyN kd m L y0 t * onN kd m (aF kd m fit) n (n - y0) t) (4 ^ m) = wSum (fun t => wyN kd m L (y0 + d) t * onN kd m (aF kd m fit) n (n - (y0 + d)) t) (4 ^ m)
  | 0, _ => rfl
  | d + 1, h => (it_sum hm hL hy d (by omega)).trans (st_sum hm hL (by omega) (fun t ht => hy _ t (by omega) (by omega) ht))
theorem on_tail (hm : m ≤ 6) {last : Nat} (hf : ∀ y t, last < y → y ≤ n → fit y t = true) : ∀ d t, t < 4 ^ m → d ≤ n → last ≤ n - d → 0 < wyN kd m fit (n - d) t → onN kd m (aF kd m fit) n d t = mvC kd m ^ d
  | 0, t, _, _, _, h => by simp only [onN]; exact if_pos (decide_eq_true h)
  | d + 1, t, ht, hd, hl, h => by
    have ek : n - d = n - (d + 1) + 1 := by omega
    have g : ∀ u, u < 4 ^ m → 0 < wyN kd m fit (n - d) u → onN kd m (aF kd m fit) n d u = mvC kd m ^ d := fun u hu q => on_tail hm hf d u hu (by omega) (by omega) q
    simp only [onN]
    rw [if_pos (decide_eq_true h)]
    have g0 : onN kd m (aF kd m fit) n d t = mvC kd m ^ d := g t ht (by
      rw [ek, F_s (hf _ _ (by omega) (by omega))]; omega)
    have g1 : wSum (fun j => if 0 < sStep (kd j) then onN kd m (aF kd m fit) n d (sMv t j (sStep (kd j))) else 0) m = wSum (fun j => if decide (0 < sStep (kd j)) then mvC kd m ^ d else 0) m := wSum_cong (fun j hj => by
      by_cases q : 0 < sStep (kd j)
      · rw [if_pos q, if_pos (decide_eq_true q)]
        refine g _ (sMv_lt ht hj) ?_
        rw [ek, F_s (hf _ _ (by omega) (by omega))]
        have := wSum_mem (f := fun i => if 0 < sStep (kd i) then wyN kd m fit (n - (d + 1)) (sMv (sMv t j (sStep (kd j))) i (4 - sStep (kd i))) else 0) hj
        simp only [if_pos q] at this
        rw [bk_mv (by omega)] at this
        omega
      · rw [if_neg q, if_neg (by simp [q])])
    rw [g0, g1, wSum_if]
    unfold mvC
    rw [Nat.pow_succ, Nat.mul_comm (_ ^ d), Nat.add_mul, Nat.one_mul]
theorem end_sum (hm : m ≤ 6) {L : Nat → Nat → Bool} {last : Nat} (hL : ∀ k t, k ≤ n → t < 4 ^ m → L k t = true → 0 < onN kd m (aF kd m fit) n (n - k) t) (hf : ∀ y t, last < y → y ≤ n → fit y t = true) {k : Nat} (hk : k ≤ n) (hl : last ≤ k) : wSum (fun t => wyN kd m L k t * onN kd m (aF kd m fit) n (n - k) t) (4 ^ m) = wSum (wyN kd m L k) (4 ^ m) * chN kd m ^ (n - k) := by
  rw [chN_mvC, ← wSum_mulc]
  refine wSum_cong (fun t ht => ?_)
  rcases Nat.eq_zero_or_pos (wyN kd m L k t) with q | q
  · rw [q, Nat.zero_mul, Nat.zero_mul]
  · have h1 := on_A hk (hL k t hk ht (F_fit q))
    rw [on_tail hm hf (n - k) t ht (by omega) (by omega) (by rw [show n - (n - k) = k by omega]; exact h1)]
theorem live_F (hm : m ≤ 6) {L : Nat → Nat → Bool} (hL : ∀ k t, k ≤ n → t < 4 ^ m → L k t = true → 0 < onN kd m (aF kd m fit) n (n - k) t) : ∀ k t, k ≤ n → t < 4 ^ m → (∀ k2 t2, k2 < k → t2 < 4 ^ m → L k2 t2 = decide (0 < onN kd m (aF kd m fit) n (n - k2) t2)) → wyN kd m L k t = if L k t then wyN kd m fit k t else 0
  | 0, t, hk, ht, _ => by
    cases q : L 0 t with
    | false => simp only [wyN, q]; rfl
    | true =>
      have := F_fit (on_A hk (hL 0 t hk ht q))
      simp only [wyN, q, this, if_true]
  | k + 1, t, hk, ht, hq => by
    cases q : L (k + 1) t with
    | false => simp only [wyN, q]; rfl
    | true =>
      have h1 := hL (k + 1) t hk ht q
      have h2 := F_fit (on_A hk h1)
      rw [if_pos rfl, F_s h2, show wyN kd m L (k + 1) t = wyN kd m L k t + wSum (fun j => if 0 < sStep (kd j) then wyN kd m L k (sMv t j (4 - sStep (kd j))) else 0) m from if_pos q]
      have g : ∀ u, u < 4 ^ m → (0 < wyN kd m fit k u → 0 < onN kd m (aF kd m fit) n (n - k) u) → wyN kd m L k u = wyN kd m fit k u := fun u hu r => by
        rw [live_F hm hL k u (by omega) hu (fun k2 t2 a b => hq k2 t2 (by omega) b), hq k u (by omega) hu]
        rcases Nat.eq_zero_or_pos (wyN kd m fit k u) with c | c
        · rw [c]; split <;> rfl
        · rw [if_pos (decide_eq_true (r c))]
      rw [g t ht (fun c => by rw [on_st (by omega), if_pos c]; omega)]
      congr 1
      refine wSum_cong (fun j hj => ?_)
      by_cases c : 0 < sStep (kd j)
      · rw [if_pos c, if_pos c]
        refine g _ (sMv_lt ht hj) (fun r => ?_)
        rw [on_st (by omega), if_pos r]
        have := wSum_mem (f := fun i => if 0 < sStep (kd i) then onN kd m (aF kd m fit) n (n - (k + 1)) (sMv (sMv t j (4 - sStep (kd j))) i (sStep (kd i))) else 0) hj
        simp only [if_pos c] at this
        rw [mv_bk (by omega)] at this
        omega
      · rw [if_neg c, if_neg c]
/-- the ways through what lives, weighed -/
theorem hv_on (hm : m ≤ 6) {L : Nat → Nat → Bool} (hL : ∀ k t, k ≤ n → t < 4 ^ m → L k t = decide (0 < onN kd m (aF kd m fit) n (n - k) t)) {last : Nat} (hf : ∀ y t, last < y → y ≤ n → fit y t = true) {k : Nat} (hk : k ≤ n) (hl : last ≤ k) : wSum (wyN kd m L k) (4 ^ m) * chN kd m ^ (n - k) = onN kd m (aF kd m fit) n n 0 := by
  have hL2 : ∀ k t, k ≤ n → t < 4 ^ m → L k t = true → 0 < onN kd m (aF kd m fit) n (n - k) t := fun k t a b c => by rw [hL k t a b] at c; exact of_decide_eq_true c
  rw [← end_sum hm hL2 hf hk hl]
  have := it_sum (y0 := 0) hm hL2 (fun k t _ a b => hL k t a b) k (by omega)
  rw [Nat.zero_add] at this
  rw [← this, Nat.sub_zero]
  have h0 : 0 < 4 ^ m := Nat.pow_pos (by decide)
  rw [← wSum_delta (c := onN kd m (aF kd m fit) n n 0) h0]
  refine wSum_cong (fun t ht => ?_)
  simp only [wyN]
  have hL0 : L 0 t = decide (0 < onN kd m (aF kd m fit) n n t) := by have := hL 0 t (by omega) ht; rw [Nat.sub_zero] at this; exact this
  rw [hL0]
  by_cases q : t = 0
  · subst q
    by_cases c : 0 < onN kd m (aF kd m fit) n n 0
    · rw [decide_eq_true c]; simp
    · rw [show onN kd m (aF kd m fit) n n 0 = 0 by omega]; simp
  · simp [q]
theorem ov_on (hm : m ≤ 6) {y : Nat} (hyn : y ≤ n) {T : Nat → Bool} {L : Nat → Nat → Bool} (hL : ∀ k t, k ≤ n → t < 4 ^ m → L k t = (decide (0 < onN kd m (aF kd m fit) n (n - k) t) && (!decide (y = k) || T t))) {last : Nat} (hf : ∀ y t, last < y → y ≤ n → fit y t = true) {k : Nat} (hk : k ≤ n) (hl : last ≤ k) (hyk : y ≤ k) : wSum (wyN kd m L k) (4 ^ m) * chN kd m ^ (n - k) = wSum (fun t => if T t then wyN kd m fit y t * onN kd m (aF kd m fit) n (n - y) t else 0) (4 ^ m) := by
  have hL2 : ∀ k t, k ≤ n → t < 4 ^ m → L k t = true → 0 < onN kd m (aF kd m fit) n (n - k) t := fun k t a b c => by rw [hL k t a b, Bool.and_eq_true] at c; exact of_decide_eq_true c.1
  have hne : ∀ k t, k ≠ y → k ≤ n → t < 4 ^ m → L k t = decide (0 < onN kd m (aF kd m fit) n (n - k) t) := fun k t a b c => by rw [hL k t b c, decide_eq_false (fun e : y = k => a e.symm)]; exact Bool.and_true _
  rw [← end_sum hm hL2 hf hk hl]
  have := it_sum (y0 := y) hm hL2 (fun k t a b c => hne k t (by omega) b c) (k - y) (by omega)
  rw [show y + (k - y) = k by omega] at this
  rw [← this]
  refine wSum_cong (fun t ht => ?_)
  rw [live_F hm hL2 y t hyn ht (fun k2 t2 a b => hne k2 t2 (by omega) (by omega) b), hL y t hyn ht, decide_eq_true rfl]
  by_cases c : 0 < onN kd m (aF kd m fit) n (n - y) t
  · rw [decide_eq_true c]
    cases T t
    · simp
    · simp
  · rw [show onN kd m (aF kd m fit) n (n - y) t = 0 by omega, Nat.mul_zero, Nat.mul_zero]; split <;> rfl
theorem any_on (hm : m ≤ 6) : (0 < onN kd m (aF kd m fit) n n 0) ↔ ∃ t, t < 4 ^ m ∧ 0 < wyN kd m fit n t := by
  have hL : ∀ k t, k ≤ n → t < 4 ^ m → (fun k t => decide (0 < onN kd m (aF kd m fit) n (n - k) t)) k t = decide (0 < onN kd m (aF kd m fit) n (n - k) t) := fun _ _ _ _ => rfl
  have e := hv_on (fit := fit) (n := n) hm hL (last := n) (fun y t a b => by omega) (k := n) (Nat.le_refl _) (Nat.le_refl _)
  rw [Nat.sub_self, Nat.pow_zero, Nat.mul_one] at e
  rw [← e]
  have lf := fun t ht => live_F (fit := fit) (n := n) hm (L := fun k t => decide (0 < onN kd m (aF kd m fit) n (n - k) t)) (fun _ _ _ _ c => of_decide_eq_true c) n t (Nat.le_refl _) ht (fun _ _ _ _ => rfl)
  constructor
  · intro h
    obtain ⟨t, ht, hp⟩ := wSum_pos h
    rw [lf t ht] at hp
    split at hp
    · exact ⟨t, ht, hp⟩
    · omega
  · rintro ⟨t, ht, hp⟩
    refine Nat.lt_of_lt_of_le ?_ (wSum_mem ht)
    rw [lf t ht, if_pos (decide_eq_true ?_)]
    · exact hp
    · rw [Nat.sub_self]; simp only [onN]; rw [if_pos (decide_eq_true hp)]; decide
end HIS
