/-! ===== rows of the reference written in a stretch; turns, states ===== -/
def sgF (f g : Nat → Int32) (a n : Nat) : Nat → Int32 := fun p => if a ≤ p ∧ p < a + n then g (p - a) else f p
theorem sgF_0 (f g : Nat → Int32) (a : Nat) : sgF f g a 0 = f := by funext p; unfold sgF; rw [if_neg (by omega)]
theorem sgF_s {f g : Nat → Int32} {a n : Nat} {v : Int32} (h : v = g n) : upd (sgF f g a n) (a + n) v = sgF f g a (n + 1) := by
  funext p
  by_cases q : p = a + n
  · subst q; rw [upd_s, h]; unfold sgF; rw [if_pos (by omega), show a + n - a = n by omega]
  · rw [upd_n q]; unfold sgF
    by_cases q2 : a ≤ p ∧ p < a + n
    · rw [if_pos q2, if_pos (by omega)]
    · rw [if_neg q2, if_neg (by omega)]
theorem sgF_in {f g : Nat → Int32} {a n i : Nat} (h : i < n) : sgF f g a n (a + i) = g i := by unfold sgF; rw [if_pos (by omega), show a + i - a = i by omega]
theorem sgF_out {f g : Nat → Int32} {a n p : Nat} (h : p < a ∨ a + n ≤ p) : sgF f g a n p = f p := if_neg (by omega)
theorem sg_start {M : wm_M} {k a : Nat} {f g : Nat → Int32} (h : M.1 k = f) : M = wIa M k (sgF f g a 0) := by rw [sgF_0, ← h, wIa_self]
theorem lt8 (x : Int32) : x ≤ 7 ↔ x < 8 := by
  rw [Int32.le_iff_toInt_le, Int32.lt_iff_toInt_lt]
  have e1 : (7 : Int32).toInt = 7 := by decide
  have e2 : (8 : Int32).toInt = 8 := by decide
  omega
theorem hw7 (x a : Int32) : inC x a 7 = (!decide (x < a) && decide (x < 8)) := by
  unfold inC
  by_cases h : x ≤ 7
  · rw [decide_eq_true h, decide_eq_true ((lt8 x).mp h)]
  · rw [decide_eq_false h, decide_eq_false (fun q => h ((lt8 x).mpr q))]
theorem wR_cases {C : wm_M} {w h s st e i : Nat} (hS : cStn C (w * h)) (hk : sAt w h st e i < w * h) : wordR C w h s st e i = -1 ∨ ∃ x, x < 8 ∧ wordR C w h s st e i = nI x := by
  unfold wordR sShow
  split
  · exact Or.inl rfl
  · rcases hS.2.2 _ hk (sSide h s (sAt w h st e i) st e) (Nat.mod_lt _ (by decide)) with ⟨-, -, q⟩ | ⟨-, x, hx, q⟩
    · exact Or.inl q
    · exact Or.inr ⟨x, hx, q⟩
theorem wR_neg {C : wm_M} {w h s st e i : Nat} (hS : cStn C (w * h)) (hk : sAt w h st e i < w * h) : wordR C w h s st e i < 0 ↔ wordR C w h s st e i = -1 := by
  rcases wR_cases (s := s) hS hk with q | ⟨x, hx, q⟩
  · rw [q]; simp
  · rw [q]; exact ⟨fun a => absurd a (nI_pos (by omega)), fun a => absurd a (nI_nem1 (by omega))⟩
/-- what turning leaves alone -/
def FrT (M N : wm_M) : Prop := (∀ c, c ≠ 96 → c ≠ 107 → c ≠ 111 → N.1 c = M.1 c) ∧ (∀ j, j ≠ 18 → N.1 96 j = M.1 96 j) ∧ N.2 = M.2
theorem FrT.rf (M : wm_M) : FrT M M := ⟨fun _ _ _ _ => rfl, fun _ _ => rfl, rfl⟩
theorem FrT.tr {M N O : wm_M} (h : FrT M N) (k : FrT N O) : FrT M O := ⟨fun c a b d => (k.1 c a b d).trans (h.1 c a b d), fun j hj => (k.2.1 j hj).trans (h.2.1 j hj), k.2.2.trans h.2.2⟩
theorem FrT.q {M : wm_M} {f : Nat → Int32} : FrT M (wIa M 107 f) := ⟨fun c _ h _ => wIa_n h, fun j _ => by rw [wIa_n (by decide)], rfl⟩
theorem FrT.l {M : wm_M} {f : Nat → Int32} : FrT M (wIa M 111 f) := ⟨fun c _ _ h => wIa_n h, fun j _ => by rw [wIa_n (by decide)], rfl⟩
theorem FrT.y {M : wm_M} {x : Int32} : FrT M (wI M 96 18 x) := ⟨fun c h _ _ => wI_c h, fun j hj => wI_ne (fun e => hj e.2), rfl⟩
theorem FrT.stn {C M N : wm_M} {w h : Nat} (k : FrT M N) (q : xStn C M w h) : xStn C N w h := q.fr (k.2.1 10 (by decide)) (k.2.1 11 (by decide)) (k.2.1 12 (by decide)) (k.1 103 (by decide) (by decide) (by decide)) (k.1 104 (by decide) (by decide) (by decide)) (k.1 105 (by decide) (by decide) (by decide)) (k.1 106 (by decide) (by decide) (by decide)) rfl rfl rfl rfl
theorem FrT.law {C M N : wm_M} (k : FrT M N) (q : xLaw C M) : xLaw C N := q.fr (k.1 109 (by decide) (by decide) (by decide)) (k.1 110 (by decide) (by decide) (by decide)) rfl (fun _ _ => rfl)
theorem st_of {x : Int32} (h : sFix x = false) : (if x = 3 then 2 else 1) = sStep x := by unfold sStep; rw [if_neg (show ¬ sFix x = true by rw [h]; decide)]
theorem mod4 (s k : Nat) : s % 4 ^ (k + 1) = s % 4 ^ k + sQ s k * 4 ^ k := by unfold sQ; rw [Nat.mod_pow_succ, Nat.mul_comm]
theorem sub4 : ∀ a, a < 4 → ∀ b, b < 4 → nI b - nI a + 4 = nI (b + 4 - a) := by decide +kernel
/-- turns of a stone from quarter a to b, or -1 -/
def tbI (x : Int32) (a b : Nat) : Int32 := if sFix x then (if (b + 4 - a) % 4 = 0 then 0 else -1) else if x = 3 then (if (b + 4 - a) % 4 % 2 = 0 then nI ((b + 4 - a) % 4 / 2) else -1) else nI ((b + 4 - a) % 4)
theorem tb5 : ∀ a, a < 4 → ∀ b, b < 4 → (5 : Nat).testBit a = true → (if (b + 4 - a) % 4 % 2 = 0 then nI ((b + 4 - a) % 4 / 2) else -1) = (if (5 : Nat).testBit b then nI ((b + 4 - a) % 4 / 2) else (-1 : Int32)) := by decide +kernel
theorem tb1 : ∀ b, b < 4 → (if (b + 4 - 0) % 4 = 0 then (0 : Int32) else -1) = (if (1 : Nat).testBit b then nI ((b + 4 - 0) % 4) else -1) := by decide +kernel
theorem tb15 : ∀ b, b < 4 → (15 : Nat).testBit b = true := by decide
theorem fix_most {x : Int32} (h : sMost x = 0) : sFix x = true := by
  unfold sMost at h
  cases q : sFix x with
  | true => rfl
  | false => rw [q] at h; simp at h; split at h <;> omega
theorem in13 {z : Nat} (hz : z ≤ 60) : inC (nI z) 1 3 = decide (1 ≤ z ∧ z ≤ 3) := by
  revert hz; revert z; decide +kernel
theorem tbI_eq {kd : Nat → Int32} {s t k : Nat} (hs : (hqN (kd k)).testBit (sQ s k) = true) : tbI (kd k) (sQ s k) (sQ t k) = if (hqN (kd k)).testBit (sQ t k) then nI (tbt kd s t k) else -1 := by
  unfold tbI tbt
  rcases st_cases (kd k) with q | q | q
  · have e0 := hq_0 q.1 (sQ_lt _ _) hs
    have hf := fix_most q.1
    rw [if_pos hf, e0, show hqN (kd k) = 1 by unfold hqN; rw [q.1]; rfl, tb1 _ (sQ_lt _ _)]
    have h3 : ¬ kd k = 3 := fun e => by rw [e] at hf; exact absurd hf (by decide)
    rw [if_neg h3]
  · have hf : ¬ sFix (kd k) = true := fun e => by have := q.1; unfold sMost at this; rw [if_pos e] at this; omega
    rw [if_neg hf, if_pos q.2.2, if_pos q.2.2, show hqN (kd k) = 5 by unfold hqN; rw [q.1]; rfl]
    exact tb5 _ (sQ_lt _ _) _ (sQ_lt _ _) (hq_1 q.1 hs)
  · have hf : ¬ sFix (kd k) = true := fun e => by have := q.1; unfold sMost at this; rw [if_pos e] at this; omega
    rw [if_neg hf, if_neg q.2.2, if_neg q.2.2, show hqN (kd k) = 15 by unfold hqN; rw [q.1]; rfl, tb15 _ (sQ_lt _ _), if_pos rfl]
def hqA (kd : Nat → Int32) (t j : Nat) : Bool := (hqN (kd j)).testBit (sQ t j)
theorem hqA_all {kd : Nat → Int32} {n t : Nat} (hn : n ≤ 6) (ht : t < 4 ^ n) : wAll (hqA kd t) n = prodB (hadN kd n) t := by
  by_cases h : prodB (hadN kd n) t = true
  · rw [h]; exact wAll_t (fun k hk => (hdB_iff hn ht).mp h k hk)
  · rw [show prodB (hadN kd n) t = false by simpa using h]
    exact Bool.eq_false_iff.mpr (fun q => h ((hdB_iff hn ht).mpr (fun k hk => wAll_iff.mp q k hk)))
/-- turns of all stones from s to t, or -1 -/
def tsI (kd : Nat → Int32) (s t k : Nat) : Int32 := if wAll (hqA kd t) k then nI (wSum (tbt kd s t) k) else -1
def tT (kd : Nat → Int32) (n s t : Nat) : Int32 := if prodB (hadN kd n) t then nI (dst kd n s t) else -1
theorem tsI_n {kd : Nat → Int32} {n s t : Nat} (hn : n ≤ 6) (ht : t < 4 ^ n) : tsI kd s t n = tT kd n s t := by unfold tsI tT dst; rw [hqA_all hn ht]
theorem tT_neg {kd : Nat → Int32} {n s t : Nat} (hn : n ≤ 6) : tT kd n s t < 0 ↔ prodB (hadN kd n) t = false := by
  unfold tT
  cases prodB (hadN kd n) t with
  | true =>
    have hd : dst kd n s t ≤ n * 3 := wSum_le (fun k _ => tbt_3)
    simp only [if_true]
    exact ⟨fun a => absurd a (nI_pos (by omega)), fun a => by cases a⟩
  | false => simp
