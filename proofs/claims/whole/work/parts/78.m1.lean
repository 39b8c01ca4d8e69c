/-! ===== now and year; what can be had; how far apart; the line of turns ===== -/
def nwM (M : wm_M) (s y : Nat) : wm_M := wI (wI M 0 12 (nI s)) 0 13 (nI y)
theorem nwM_c {M : wm_M} {s y c : Nat} (h : c ≠ 0) : (nwM M s y).1 c = M.1 c := by unfold nwM; rw [wI_c h, wI_c h]
theorem nwM_12 {M : wm_M} {s y : Nat} : (nwM M s y).1 0 12 = nI s := by unfold nwM; rw [wI_ne (by decide), wI_at]
theorem nwM_13 {M : wm_M} {s y : Nat} : (nwM M s y).1 0 13 = nI y := wI_at
theorem upd_4 {f : Nat → Int32} {a b c d : Int32} : upd (upd (upd (upd f 12 a) 13 b) 12 c) 13 d = upd (upd f 12 c) 13 d := by
  funext j
  by_cases h : j = 13
  · subst h; rw [upd_s, upd_s]
  · rw [upd_n h, upd_n h]
    by_cases h2 : j = 12
    · subst h2; rw [upd_s, upd_s]
    · rw [upd_n h2, upd_n h, upd_n h2, upd_n h2]
theorem nwM_2 {M : wm_M} {s y s2 y2 : Nat} : nwM (nwM M s y) s2 y2 = nwM M s2 y2 := by
  simp only [nwM, wI, wIa_wIa, wIa_s]; rw [upd_4]
theorem nwM_self {M : wm_M} {s y : Nat} (h12 : M.1 0 12 = nI s) (h13 : M.1 0 13 = nI y) : nwM M s y = M := by
  unfold nwM; rw [wI_self h12, wI_self h13]
theorem st_cases (x : Int32) : (sMost x = 0 ∧ sStep x = 0) ∨ (sMost x = 1 ∧ sStep x = 2 ∧ x = 3) ∨ (sMost x = 3 ∧ sStep x = 1 ∧ ¬ x = 3) := by
  unfold sMost sStep
  by_cases h : sFix x = true
  · left; rw [if_pos h, if_pos h]; exact ⟨rfl, rfl⟩
  · rw [if_neg h, if_neg h]
    by_cases h3 : x = 3
    · right; left; rw [if_pos h3, if_pos h3]; exact ⟨rfl, rfl, h3⟩
    · right; right; rw [if_neg h3, if_neg h3]; exact ⟨rfl, rfl, h3⟩
/-- the quarters that a stone can have -/
def hqN (x : Int32) : Nat := if sMost x = 3 then 15 else if sMost x = 1 then 5 else 1
theorem hqN_step {x : Int32} {a : Nat} (ha : a < 4) (h : (hqN x).testBit a = true) : (hqN x).testBit ((a + sStep x) % 4) = true := by
  unfold hqN at h ⊢
  rcases st_cases x with q | q | q
  · rw [q.2]; rw [show (a + 0) % 4 = a by omega]; exact h
  · rw [q.1] at h ⊢; rw [q.2.1]; revert h; revert ha; revert a; decide
  · rw [q.1] at h ⊢; rw [q.2.1]; revert h; revert ha; revert a; decide
theorem hqN_back {x : Int32} {a : Nat} (ha : a < 4) (h : (hqN x).testBit a = true) : (hqN x).testBit ((a + (4 - sStep x)) % 4) = true := by
  unfold hqN at h ⊢
  rcases st_cases x with q | q | q
  · rw [q.2]; rw [show (a + (4 - 0)) % 4 = a by omega]; exact h
  · rw [q.1] at h ⊢; rw [q.2.1]; revert h; revert ha; revert a; decide
  · rw [q.1] at h ⊢; rw [q.2.1]; revert h; revert ha; revert a; decide
def hdB (kd : Nat → Int32) (n s : Nat) : Prop := s < 4 ^ n ∧ prodB (hadN kd n) s = true
theorem sQ_0 {s n k : Nat} (hs : s < 4 ^ n) (hk : n ≤ k) : sQ s k = 0 := by
  unfold sQ
  rw [Nat.div_eq_of_lt (Nat.lt_of_lt_of_le hs (Nat.pow_le_pow_right (by decide) hk))]
theorem hdB_iff {kd : Nat → Int32} {n s : Nat} (hn : n ≤ 6) (hs : s < 4 ^ n) : prodB (hadN kd n) s = true ↔ ∀ k, k < n → (hqN (kd k)).testBit (sQ s k) = true := by
  unfold prodB
  rw [wAll_iff]
  constructor
  · intro h k hk
    have := h k (by omega)
    unfold hadN at this; rw [if_pos hk] at this; exact this
  · intro h k hk
    unfold hadN
    by_cases q : k < n
    · rw [if_pos q]; exact h k q
    · rw [if_neg q, sQ_0 hs (by omega)]; rfl
theorem hd_mv {kd : Nat → Int32} {n s k : Nat} (h : hdB kd n s) (hn : n ≤ 6) (hk : k < n) : hdB kd n (sMv s k (sStep (kd k))) := by
  have h1 := sMv_lt (m := sStep (kd k)) h.1 hk
  refine ⟨h1, (hdB_iff hn h1).mpr (fun j hj => ?_)⟩
  have h2 := (hdB_iff hn h.1).mp h.2 j hj
  by_cases q : j = k
  · subst q; rw [sQ_mv (by omega)]; exact hqN_step (sQ_lt _ _) h2
  · rw [sQ_mvn (by omega) (by omega) q]; exact h2
theorem hd_bk {kd : Nat → Int32} {n s k : Nat} (h : hdB kd n s) (hn : n ≤ 6) (hk : k < n) : hdB kd n (sMv s k (4 - sStep (kd k))) := by
  have h1 := sMv_lt (m := 4 - sStep (kd k)) h.1 hk
  refine ⟨h1, (hdB_iff hn h1).mpr (fun j hj => ?_)⟩
  have h2 := (hdB_iff hn h.1).mp h.2 j hj
  by_cases q : j = k
  · subst q; rw [sQ_mv (by omega)]; exact hqN_back (sQ_lt _ _) h2
  · rw [sQ_mvn (by omega) (by omega) q]; exact h2
theorem hd_0 (kd : Nat → Int32) {n : Nat} (hn : n ≤ 6) : hdB kd n 0 := by
  have h0 : 0 < 4 ^ n := Nat.pow_pos (by decide)
  refine ⟨h0, (hdB_iff hn h0).mpr (fun j hj => ?_)⟩
  rw [show sQ 0 j = 0 by unfold sQ; rw [Nat.zero_div]]
  unfold hqN; split
  · rfl
  · split <;> rfl
theorem hadS.hd {C : wm_M} {n s : Nat} (h : hadS C n s) : hdB (C.1 18) n s := h
theorem hdB.had {C : wm_M} {n s : Nat} (h : hdB (C.1 18) n s) : hadS C n s := h
theorem s_split {s n : Nat} (hn : n < 6) (hs : s < 4 ^ (n + 1)) (h : sQ s n = 0) : s < 4 ^ n := by
  rcases k6 hn with rfl | rfl | rfl | rfl | rfl | rfl <;> simp only [sQ, Nat.reducePow, Nat.reduceAdd] at h hs ⊢ <;> omega
/-- all that a state below 4096 shows to be had is a state of the stones that are there -/
theorem hd_lt {kd : Nat → Int32} {n s : Nat} (hn : n ≤ 6) (hs : s < 4096) (h : prodB (hadN kd n) s = true) : s < 4 ^ n := by
  have hz : ∀ k, n ≤ k → k < 6 → sQ s k = 0 := fun k h1 h2 => by
    have := wAll_iff.mp h k h2
    unfold hadN at this; rw [if_neg (by omega)] at this
    have h3 := sQ_lt s k
    revert this
    generalize sQ s k = a at h3
    revert a; decide
  have key : ∀ d, d ≤ 6 - n → s < 4 ^ (6 - d) := by
    intro d
    induction d with
    | zero => intro _; exact hs
    | succ d ih =>
      intro hd
      exact s_split (by omega) (by rw [show 6 - (d + 1) + 1 = 6 - d by omega]; exact ih (by omega)) (hz _ (by omega) (by omega))
  have := key (6 - n) (Nat.le_refl _)
  rw [show 6 - (6 - n) = n by omega] at this; exact this
theorem s_ext {n : Nat} (hn : n ≤ 6) : ∀ {s t : Nat}, s < 4 ^ n → t < 4 ^ n → (∀ k, k < n → sQ s k = sQ t k) → s = t := by
  intro s t hs ht h
  have hs6 : s < 4096 := Nat.lt_of_lt_of_le hs (p4_le hn)
  have ht6 : t < 4096 := Nat.lt_of_lt_of_le ht (p4_le hn)
  have h6 : ∀ k, k < 6 → sQ s k = sQ t k := fun k hk => by
    by_cases q : k < n
    · exact h k q
    · rw [sQ_0 hs (by omega), sQ_0 ht (by omega)]
  have a0 := h6 0 (by decide); have a1 := h6 1 (by decide); have a2 := h6 2 (by decide)
  have a3 := h6 3 (by decide); have a4 := h6 4 (by decide); have a5 := h6 5 (by decide)
  simp only [sQ, Nat.reducePow] at a0 a1 a2 a3 a4 a5
  omega
/-- turns of a stone between two states, and of all -/
def tbt (kd : Nat → Int32) (s t k : Nat) : Nat := if kd k = 3 then ((sQ t k + 4 - sQ s k) % 4) / 2 else (sQ t k + 4 - sQ s k) % 4
def dst (kd : Nat → Int32) (m s t : Nat) : Nat := wSum (tbt kd s t) m
theorem tb_step3 : ∀ a, a < 4 → ∀ b, b < 4 → (5 : Nat).testBit a = true → (5 : Nat).testBit b = true → (((b + 2) % 4 + 4 - a) % 4) / 2 ≤ ((b + 4 - a) % 4) / 2 + 1 := by decide
theorem tb_step1 : ∀ a, a < 4 → ∀ b, b < 4 → ((b + 1) % 4 + 4 - a) % 4 ≤ (b + 4 - a) % 4 + 1 := by decide
theorem tb_bk3 : ∀ a, a < 4 → ∀ b, b < 4 → (5 : Nat).testBit a = true → (5 : Nat).testBit b = true → 0 < ((b + 4 - a) % 4) / 2 → (((b + 2) % 4 + 4 - a) % 4) / 2 + 1 = ((b + 4 - a) % 4) / 2 := by decide
theorem tb_bk1 : ∀ a, a < 4 → ∀ b, b < 4 → 0 < (b + 4 - a) % 4 → ((b + 3) % 4 + 4 - a) % 4 + 1 = (b + 4 - a) % 4 := by decide
theorem tb_z3 : ∀ a, a < 4 → ∀ b, b < 4 → (5 : Nat).testBit a = true → (5 : Nat).testBit b = true → ((b + 4 - a) % 4) / 2 = 0 → a = b := by decide
theorem tb_z1 : ∀ a, a < 4 → ∀ b, b < 4 → (b + 4 - a) % 4 = 0 → a = b := by decide
theorem tb_z0 : ∀ a, a < 4 → (1 : Nat).testBit a = true → a = 0 := by decide
theorem hq_0 {x : Int32} (q : sMost x = 0) {a : Nat} (ha : a < 4) (h : (hqN x).testBit a = true) : a = 0 := by unfold hqN at h; rw [q] at h; exact tb_z0 a ha h
theorem hq_1 {x : Int32} (q : sMost x = 1) {a : Nat} (h : (hqN x).testBit a = true) : (5 : Nat).testBit a = true := by unfold hqN at h; rw [q] at h; exact h
theorem tbt_le {kd : Nat → Int32} {s t k n : Nat} (hs : hdB kd n s) (ht : hdB kd n t) (hn : n ≤ 6) (hk : k < n) : tbt kd s t k ≤ sMost (kd k) := by
  have a := (hdB_iff hn hs.1).mp hs.2 k hk
  have b := (hdB_iff hn ht.1).mp ht.2 k hk
  unfold tbt
  rcases st_cases (kd k) with q | q | q
  · rw [hq_0 q.1 (sQ_lt _ _) a, hq_0 q.1 (sQ_lt _ _) b]; split <;> simp
  · rw [if_pos q.2.2, q.1]; omega
  · rw [if_neg q.2.2, q.1]; omega
theorem wSum_le2 {f g : Nat → Nat} : ∀ {n : Nat}, (∀ i, i < n → f i ≤ g i) → wSum f n ≤ wSum g n
  | 0, _ => Nat.le_refl _
  | n + 1, h => by
    have h1 := wSum_le2 (f := f) (g := g) (n := n) (fun i hi => h i (by omega))
    have h2 := h n (by omega)
    simp only [wSum]; omega
theorem wSum_mono {f : Nat → Nat} {a : Nat} : ∀ {b : Nat}, a ≤ b → wSum f a ≤ wSum f b
  | 0, h => by rw [show a = 0 by omega]; exact Nat.le_refl _
  | b + 1, h => by
    rcases Nat.lt_or_eq_of_le h with q | q
    · have := wSum_mono (f := f) (a := a) (b := b) (by omega)
      simp only [wSum]; omega
    · rw [q]; exact Nat.le_refl _
/-- one summand another -/
theorem wSum_one {f g : Nat → Nat} {k : Nat} : ∀ {n : Nat}, k < n → (∀ i, i < n → i ≠ k → f i = g i) → wSum f n + g k = wSum g n + f k
  | 0, h, _ => absurd h (Nat.not_lt_zero _)
  | n + 1, h, h2 => by
    simp only [wSum]
    by_cases q : k = n
    · subst q
      rw [wSum_cong (fun i hi => h2 i (by omega) (by omega))]; omega
    · have := wSum_one (f := f) (g := g) (k := k) (n := n) (by omega) (fun i hi => h2 i (by omega))
      rw [h2 n (by omega) (fun e => q e.symm)]; omega
theorem wSum_0 {f : Nat → Nat} : ∀ {n : Nat}, wSum f n = 0 → ∀ i, i < n → f i = 0
  | 0, _, i, hi => absurd hi (Nat.not_lt_zero _)
  | n + 1, h, i, hi => by
    simp only [wSum] at h
    rcases Nat.lt_or_eq_of_le (Nat.le_of_lt_succ hi) with q | q
    · exact wSum_0 (n := n) (by omega) i q
    · subst q; omega
theorem wSum_z {f : Nat → Nat} : ∀ {n : Nat}, (∀ i, i < n → f i = 0) → wSum f n = 0
  | 0, _ => rfl
  | n + 1, h => by simp only [wSum]; rw [wSum_z (fun i hi => h i (by omega)), h n (by omega)]
theorem wSum_pos {f : Nat → Nat} : ∀ {n : Nat}, 0 < wSum f n → ∃ i, i < n ∧ 0 < f i
  | 0, h => absurd h (Nat.lt_irrefl _)
  | n + 1, h => by
    simp only [wSum] at h
    by_cases q : 0 < f n
    · exact ⟨n, by omega, q⟩
    · obtain ⟨i, h1, h2⟩ := wSum_pos (f := f) (n := n) (by omega)
      exact ⟨i, by omega, h2⟩
theorem dst_self {kd : Nat → Int32} {m s : Nat} : dst kd m s s = 0 := wSum_z (fun i _ => by unfold tbt; have := sQ_lt s i; rw [show (sQ s i + 4 - sQ s i) % 4 = 0 by omega]; split <;> rfl)
theorem dst_0 {kd : Nat → Int32} {m s t : Nat} (hm : m ≤ 6) (hs : hdB kd m s) (ht : hdB kd m t) (h : dst kd m s t = 0) : s = t := by
  refine s_ext hm hs.1 ht.1 (fun k hk => ?_)
  have h1 := wSum_0 h k hk
  have a := (hdB_iff hm hs.1).mp hs.2 k hk
  have b := (hdB_iff hm ht.1).mp ht.2 k hk
  unfold tbt at h1
  rcases st_cases (kd k) with q | q | q
  · rw [hq_0 q.1 (sQ_lt _ _) a, hq_0 q.1 (sQ_lt _ _) b]
  · rw [if_pos q.2.2] at h1; exact tb_z3 _ (sQ_lt _ _) _ (sQ_lt _ _) (hq_1 q.1 a) (hq_1 q.1 b) h1
  · rw [if_neg q.2.2] at h1; exact tb_z1 _ (sQ_lt _ _) _ (sQ_lt _ _) h1
theorem tbt_n {kd : Nat → Int32} {s t k j q : Nat} (hk : k < 6) (hj : j < 6) (h : j ≠ k) : tbt kd s (sMv t k q) j = tbt kd s t j := by
  unfold tbt; rw [sQ_mvn hk hj h]
theorem dst_mv {kd : Nat → Int32} {m s t k : Nat} (hm : m ≤ 6) (hs : hdB kd m s) (ht : hdB kd m t) (hk : k < m) : dst kd m s (sMv t k (sStep (kd k))) ≤ dst kd m s t + 1 := by
  have h1 := wSum_one (f := tbt kd s (sMv t k (sStep (kd k)))) (g := tbt kd s t) hk (fun i hi h => tbt_n (by omega) (by omega) h)
  have a := (hdB_iff hm hs.1).mp hs.2 k hk
  have b := (hdB_iff hm ht.1).mp ht.2 k hk
  have h2 : tbt kd s (sMv t k (sStep (kd k))) k ≤ tbt kd s t k + 1 := by
    unfold tbt
    rw [sQ_mv (by omega)]
    rcases st_cases (kd k) with q | q | q
    · rw [q.2]; have := sQ_lt t k; rw [show (sQ t k + 0) % 4 = sQ t k by omega]; omega
    · rw [if_pos q.2.2, if_pos q.2.2, q.2.1]; exact tb_step3 _ (sQ_lt _ _) _ (sQ_lt _ _) (hq_1 q.1 a) (hq_1 q.1 b)
    · rw [if_neg q.2.2, if_neg q.2.2, q.2.1]; exact tb_step1 _ (sQ_lt _ _) _ (sQ_lt _ _)
  unfold dst; omega
theorem dst_bk {kd : Nat → Int32} {m s t k : Nat} (hm : m ≤ 6) (hs : hdB kd m s) (ht : hdB kd m t) (hk : k < m) (h0 : 0 < tbt kd s t k) : 0 < sStep (kd k) ∧ dst kd m s (sMv t k (4 - sStep (kd k))) + 1 = dst kd m s t := by
  have h1 := wSum_one (f := tbt kd s (sMv t k (4 - sStep (kd k)))) (g := tbt kd s t) hk (fun i hi h => tbt_n (by omega) (by omega) h)
  have a := (hdB_iff hm hs.1).mp hs.2 k hk
  have b := (hdB_iff hm ht.1).mp ht.2 k hk
  have h2 : 0 < sStep (kd k) ∧ tbt kd s (sMv t k (4 - sStep (kd k))) k + 1 = tbt kd s t k := by
    unfold tbt at h0 ⊢
    rw [sQ_mv (by omega)]
    rcases st_cases (kd k) with q | q | q
    · rw [hq_0 q.1 (sQ_lt _ _) a, hq_0 q.1 (sQ_lt _ _) b] at h0; split at h0 <;> simp at h0
    · rw [if_pos q.2.2] at h0; rw [if_pos q.2.2, if_pos q.2.2, q.2.1]; exact ⟨by decide, tb_bk3 _ (sQ_lt _ _) _ (sQ_lt _ _) (hq_1 q.1 a) (hq_1 q.1 b) h0⟩
    · rw [if_neg q.2.2] at h0; rw [if_neg q.2.2, if_neg q.2.2, q.2.1]; exact ⟨by decide, tb_bk1 _ (sQ_lt _ _) _ (sQ_lt _ _) h0⟩
  unfold dst; exact ⟨h2.1, by omega⟩
theorem bl_mono {kd : Nat → Int32} {m s t : Nat} : ∀ {n d : Nat}, blB kd m s n t = true → blB kd m s (n + d) t = true
  | n, 0, h => h
  | n, d + 1, h => by
    show (blB kd m s (n + d) t || _) = true
    rw [bl_mono (n := n) (d := d) h, Bool.true_or]
/-- the states of n turns are those that can be had and are no farther than n -/
theorem bl_of {kd : Nat → Int32} {m s : Nat} (hm : m ≤ 6) (hs : hdB kd m s) : ∀ (n t : Nat), blB kd m s n t = true → hdB kd m t ∧ dst kd m s t ≤ n := by
  intro n
  induction n with
  | zero =>
    intro t h
    have e : t = s := of_decide_eq_true h
    subst e; exact ⟨hs, by rw [dst_self]; exact Nat.le_refl _⟩
  | succ n ih =>
    intro t h
    have h' : (blB kd m s n t || wAny (fun k => decide (0 < sStep (kd k)) && blB kd m s n (sMv t k (4 - sStep (kd k)))) m) = true := h
    rw [Bool.or_eq_true] at h'
    rcases h' with h' | h'
    · obtain ⟨a, b⟩ := ih t h'; exact ⟨a, by omega⟩
    · obtain ⟨k, hk, hp⟩ := wAny_iff.mp h'
      rw [Bool.and_eq_true] at hp
      have h3 := sStep_le (kd k)
      obtain ⟨a, b⟩ := ih _ hp.2
      have e : sMv (sMv t k (4 - sStep (kd k))) k (sStep (kd k)) = t := sMv_inv (by omega) (by omega)
      have c := hd_mv a hm hk
      have d := dst_mv hm hs a hk
      rw [e] at c d
      exact ⟨c, by omega⟩
theorem bl_to {kd : Nat → Int32} {m s : Nat} (hm : m ≤ 6) (hs : hdB kd m s) : ∀ (n t : Nat), hdB kd m t → dst kd m s t ≤ n → blB kd m s n t = true := by
  have key : ∀ (n t : Nat), hdB kd m t → dst kd m s t = n → blB kd m s n t = true := by
    intro n
    induction n with
    | zero => intro t ht h; exact decide_eq_true (dst_0 hm hs ht h).symm
    | succ n ih =>
      intro t ht h
      obtain ⟨k, hk, h0⟩ := wSum_pos (f := tbt kd s t) (n := m) (by unfold dst at h; omega)
      obtain ⟨h1, h2⟩ := dst_bk hm hs ht hk h0
      have h3 := ih _ (hd_bk ht hm hk) (by omega)
      show (blB kd m s n t || wAny (fun k => decide (0 < sStep (kd k)) && blB kd m s n (sMv t k (4 - sStep (kd k)))) m) = true
      rw [Bool.or_eq_true]; right
      exact wAny_iff.mpr ⟨k, hk, by rw [decide_eq_true h1, h3]; rfl⟩
  intro n t ht h
  have := bl_mono (d := n - dst kd m s t) (key _ t ht rfl)
  rw [show dst kd m s t + (n - dst kd m s t) = n by omega] at this; exact this
theorem bl_eq {kd : Nat → Int32} {m s n t : Nat} (hm : m ≤ 6) (hs : hdB kd m s) (ht : hdB kd m t) : blB kd m s n t = decide (dst kd m s t ≤ n) := by
  by_cases h : dst kd m s t ≤ n
  · rw [decide_eq_true h]; exact bl_to hm hs n t ht h
  · rw [decide_eq_false h]; exact Bool.eq_false_iff.mpr (fun q => h (bl_of hm hs n t q).2)
theorem dst_most {kd : Nat → Int32} {m s t : Nat} (hm : m ≤ 6) (hs : hdB kd m s) (ht : hdB kd m t) : dst kd m s t ≤ wSum (fun k => sMost (kd k)) m := wSum_le2 (fun k hk => tbt_le hs ht hm hk)
/-- the line of turns: the stone at its place i -/
def lnK (tb : Nat → Nat) (m i : Nat) : Nat := wCnt (fun k => decide (wSum tb (k + 1) ≤ i)) m
theorem wCnt_thr {p : Nat → Bool} {k : Nat} : ∀ {m : Nat}, k ≤ m → (∀ j, j < k → p j = true) → (∀ j, k ≤ j → j < m → p j = false) → wCnt p m = k
  | 0, h, _, _ => by rw [show k = 0 by omega]; rfl
  | m + 1, h, h1, h2 => by
    simp only [wCnt]
    by_cases q : k = m + 1
    · subst q
      rw [wCnt_thr (k := m) (m := m) (Nat.le_refl _) (fun j hj => h1 j (by omega)) (fun j h3 h4 => absurd h4 (by omega)), h1 m (by omega), if_pos rfl]
    · rw [wCnt_thr (k := k) (m := m) (by omega) h1 (fun j h3 h4 => h2 j h3 (by omega)), h2 m (by omega) (by omega)]; rfl
theorem lnK_at {tb : Nat → Nat} {m k i : Nat} (hk : k < m) (h1 : wSum tb k ≤ i) (h2 : i < wSum tb (k + 1)) : lnK tb m i = k := by
  refine wCnt_thr (by omega) (fun j hj => decide_eq_true ?_) (fun j hj _ => decide_eq_false ?_)
  · exact Nat.le_trans (wSum_mono (by omega)) h1
  · have := wSum_mono (f := tb) (a := k + 1) (b := j + 1) (by omega); omega
theorem lnK_lt {tb : Nat → Nat} {m i : Nat} (h : i < wSum tb m) : lnK tb m i < m := by
  have : ∀ k, k ≤ m → i < wSum tb k → ∃ j, j < k ∧ wSum tb j ≤ i ∧ i < wSum tb (j + 1) := by
    intro k
    induction k with
    | zero => intro _ h0; exact absurd h0 (Nat.not_lt_zero _)
    | succ k ih =>
      intro hk h0
      by_cases q : i < wSum tb k
      · obtain ⟨j, a, b, c⟩ := ih (by omega) q; exact ⟨j, by omega, b, c⟩
      · exact ⟨k, by omega, by omega, h0⟩
  obtain ⟨j, a, b, c⟩ := this m (Nat.le_refl _) h
  rw [lnK_at a b c]; exact a
def lnF (kd : Nat → Int32) (m s t : Nat) : Nat → Int32 := fun i => nI (lnK (tbt kd s t) m i)
theorem CI.now {C : wm_M} {w h rn s yr s2 y2 : Nat} (q : CI C w h rn s yr) (hs : hadS C (w * h) s2) (hy : y2 ≤ 999) : CI (nwM C s2 y2) w h rn s2 y2 := by
  obtain ⟨q1, q2, q3, q4, q5, q6, q7, q8, q9, q10, q11⟩ := q
  have c : ∀ c, c ≠ 0 → (nwM C s2 y2).1 c = C.1 c := fun c hc => nwM_c hc
  exact ⟨q1.fr (c 17 (by decide)), q2.fr (c 18 (by decide)) (c 19 (by decide)) (c 20 (by decide)), ⟨nwM_12, nwM_13, hy, hs.fr (c 18 (by decide))⟩, q4.fr (c 9 (by decide)), q5.fr (c 16 (by decide)), q6.fr (c 35 (by decide)) (fun l hl => c _ (by omega)), q7.fr (c 94 (by decide)) (c 95 (by decide)) (c 18 (by decide)), q8.fr (c 54 (by decide)) (c 55 (by decide)) (c 56 (by decide)) (c 57 (by decide)) (c 64 (by decide)), q9.fr (c 1 (by decide)) (c 10 (by decide)) (c 29 (by decide)) (c 58 (by decide)), q10.fr (c 18 (by decide)) (c 19 (by decide)) (c 35 (by decide)) (fun l hl => c _ (by omega)) (fun l hl => rfl), q11⟩
/-- the next state: a stone's turn, or none -/
def mvS (M : wm_M) (s : Nat) (x : Int32) : Nat := if x = -9 then s else sMv s x.toNatClampNeg (sStep (M.1 18 x.toNatClampNeg))
theorem rwS_s (M : wm_M) (f : Nat → Int32) (s i : Nat) : rwS M f s (i + 1) = mvS M (rwS M f s i) (f i) := rfl
theorem hd_mvS {M : wm_M} {n s : Nat} {x : Int32} (hn : n ≤ 6) (h : hadS M n s) (hm : mtB M n x = true) : hadS M n (mvS M s x) := by
  unfold mvS
  by_cases q : x = -9
  · rw [if_pos q]; exact h
  · rw [if_neg q]
    unfold mtB at hm
    rw [decide_eq_false q, Bool.false_or, Bool.and_eq_true] at hm
    obtain ⟨j, hj, rfl⟩ := wIn_ex (by omega) hm.1
    rw [nI_clamp (by omega)]
    exact (hd_mv h.hd hn hj).had
theorem hd_rwS {M : wm_M} {n s : Nat} {f : Nat → Int32} (hn : n ≤ 6) (h : hadS M n s) : ∀ i, (∀ j, j < i → mtB M n (f j) = true) → hadS M n (rwS M f s i)
  | 0, _ => h
  | i + 1, hm => hd_mvS hn (hd_rwS hn h i (fun j hj => hm j (by omega))) (hm i (by omega))
/-- the least years as the least distance -/
theorem yrs_some {M : wm_M} {w h s set n t : Nat} (hn6 : w * h ≤ 6) (hs : hadS M (w * h) s) (ht : hadS M (w * h) t) (hg : goalB M w h set t = true) (hd : dst (M.1 18) (w * h) s t = n) (hl : ∀ t2, hadS M (w * h) t2 → goalB M w h set t2 = true → n ≤ dst (M.1 18) (w * h) s t2) : yrs M w h s set = nI n := by
  have h4 := p4_le hn6
  refine wFind_some ?_ ?_ ?_
  · have := dst_most hn6 hs.hd ht.hd; omega
  · exact wAny_iff.mpr ⟨t, Nat.lt_of_lt_of_le ht.1 h4, by rw [bl_to hn6 hs.hd n t ht.hd (by omega), hg]; rfl⟩
  · intro j hj
    refine Bool.eq_false_iff.mpr (fun q => ?_)
    obtain ⟨t2, _, h2⟩ := wAny_iff.mp q
    rw [Bool.and_eq_true] at h2
    obtain ⟨a, b⟩ := bl_of hn6 hs.hd j t2 h2.1
    have := hl t2 a.had h2.2
    omega
theorem goal_had {M : wm_M} {w h set t : Nat} (hn6 : w * h ≤ 6) (ht : t < 4096) (hg : goalB M w h set t = true) : hadS M (w * h) t := by
  unfold goalB at hg; rw [Bool.and_eq_true] at hg
  exact ⟨hd_lt hn6 ht hg.1, hg.1⟩
/-- what the least years tell -/
theorem yrs_cases {M : wm_M} {w h s : Nat} (set : Nat) (hn6 : w * h ≤ 6) (hs : hadS M (w * h) s) : (yrs M w h s set = -9 ∧ ∀ t, t < 4096 → goalB M w h set t = false) ∨ ∃ n t, n ≤ 18 ∧ yrs M w h s set = nI n ∧ rch M w h s set n = nI t ∧ hadS M (w * h) t ∧ goalB M w h set t = true ∧ dst (M.1 18) (w * h) s t = n ∧ (∀ t2, hadS M (w * h) t2 → goalB M w h set t2 = true → n ≤ dst (M.1 18) (w * h) s t2) ∧ ∀ t2, t2 < t → hadS M (w * h) t2 → goalB M w h set t2 = true → n < dst (M.1 18) (w * h) s t2 := by
  have h4 := p4_le hn6
  rcases wFind_cases (fun n => wAny (fun s2 => blB (M.1 18) (w * h) s n s2 && goalB M w h set s2) 4096) (wSum (fun k => sMost (M.1 18 k)) (w * h) + 1) with ⟨e, h1⟩ | ⟨n, hn, e, h1, h2⟩
  · left
    refine ⟨e, fun t ht => Bool.eq_false_iff.mpr (fun q => ?_)⟩
    have a := goal_had hn6 ht q
    have b := h1 (wSum (fun k => sMost (M.1 18 k)) (w * h)) (by omega)
    have c := wAny_iff (p := fun s2 => blB (M.1 18) (w * h) s (wSum (fun k => sMost (M.1 18 k)) (w * h)) s2 && goalB M w h set s2).mpr ⟨t, ht, show (blB (M.1 18) (w * h) s (wSum (fun k => sMost (M.1 18 k)) (w * h)) t && goalB M w h set t) = true by rw [bl_to hn6 hs.hd _ t a.hd (dst_most hn6 hs.hd a.hd), q]; rfl⟩
    rw [c] at b; cases b
  · right
    have hmost : wSum (fun k => sMost (M.1 18 k)) (w * h) ≤ 18 := Nat.le_trans (wSum_le (c := 3) (fun _ _ => sMost_le _)) (by omega)
    have hl : ∀ t2, hadS M (w * h) t2 → goalB M w h set t2 = true → n ≤ dst (M.1 18) (w * h) s t2 := fun t2 a b => by
      rcases Nat.lt_or_ge (dst (M.1 18) (w * h) s t2) n with q | q
      · have c := h2 _ q
        rw [wAny_iff.mpr ⟨t2, Nat.lt_of_lt_of_le a.1 h4, by rw [bl_to hn6 hs.hd _ t2 a.hd (Nat.le_refl _), b]; rfl⟩] at c
        cases c
      · exact q
    rcases wFind_cases (fun t => blB (M.1 18) (w * h) s n t && goalB M w h set t) 4096 with ⟨_, g1⟩ | ⟨t, ht, g0, g1, g2⟩
    · obtain ⟨t, ht, hp⟩ := wAny_iff.mp h1
      exact absurd hp (by rw [g1 t ht]; decide)
    · rw [Bool.and_eq_true] at g1
      obtain ⟨a, b⟩ := bl_of hn6 hs.hd n t g1.1
      have c := hl t a.had g1.2
      refine ⟨n, t, by omega, e, g0, a.had, g1.2, by omega, hl, fun t2 h3 h5 h6 => ?_⟩
      have d := g2 t2 h3
      rw [h6, Bool.and_true, bl_eq hn6 hs.hd h5.hd] at d
      have := of_decide_eq_false d
      omega
