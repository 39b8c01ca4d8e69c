/-! ===== histories ===== -/
theorem k6 {k : Nat} (h : k < 6) : k = 0 ∨ k = 1 ∨ k = 2 ∨ k = 3 ∨ k = 4 ∨ k = 5 := by omega
theorem sMv_inv {s k m m' : Nat} (hk : k < 6) (hm : (m + m') % 4 = 0) : sMv (sMv s k m) k m' = s := by
  rcases k6 hk with rfl | rfl | rfl | rfl | rfl | rfl <;> simp only [sMv, sQ, Nat.reducePow] <;> omega
theorem sQ_mv {s k m : Nat} (hk : k < 6) : sQ (sMv s k m) k = (sQ s k + m) % 4 := by
  rcases k6 hk with rfl | rfl | rfl | rfl | rfl | rfl <;> simp only [sMv, sQ, Nat.reducePow] <;> omega
theorem sQ_mvn {s k m j : Nat} (hk : k < 6) (hj : j < 6) (hjk : j ≠ k) : sQ (sMv s k m) j = sQ s j := by
  rcases k6 hk with rfl | rfl | rfl | rfl | rfl | rfl <;> rcases k6 hj with rfl | rfl | rfl | rfl | rfl | rfl <;> first | exact absurd rfl hjk | (simp only [sMv, sQ, Nat.reducePow]; omega)
theorem sMv_p {s k m n : Nat} (hs : s < 4 ^ n) (hn : n ≤ 6) (hk : k < n) : sMv s k m < 4 ^ n := sMv_lt hs hk
/-- the states of year k to which a history leads that fits as far -/
def fwB (M : wm_M) (w h rn : Nat) : Nat → Nat → Bool
  | 0, s => decide (s = 0) && (prodB (hadN (M.1 18) (w * h)) s && fitB M w h rn 0 s)
  | k + 1, s => (fwB M w h rn k s || wAny (fun j => decide (0 < sStep (M.1 18 j)) && fwB M w h rn k (sMv s j (4 - sStep (M.1 18 j)))) (w * h)) && (prodB (hadN (M.1 18) (w * h)) s && fitB M w h rn (k + 1) s)
/-- the states of year n - d that are in some history of n years -/
def lvB (M : wm_M) (w h rn n : Nat) : Nat → Nat → Bool
  | 0, s => fwB M w h rn n s
  | d + 1, s => fwB M w h rn (n - (d + 1)) s && (lvB M w h rn n d s || wAny (fun j => decide (0 < sStep (M.1 18 j)) && lvB M w h rn n d (sMv s j (sStep (M.1 18 j)))) (w * h))
/-- the ways to a state of year k, if in each year only L is kept -/
def wyN (kd : Nat → Int32) (m : Nat) (L : Nat → Nat → Bool) : Nat → Nat → Nat
  | 0, s => if L 0 s then (if s = 0 then 1 else 0) else 0
  | k + 1, s => if L (k + 1) s then wyN kd m L k s + wSum (fun j => if 0 < sStep (kd j) then wyN kd m L k (sMv s j (4 - sStep (kd j))) else 0) m else 0
def FrP (M N : wm_M) : Prop := (∀ c, c ≠ 69 → N.1 c = M.1 c) ∧ (∀ c, c < 68 ∨ 92 ≤ c → N.2.1 c = M.2.1 c) ∧ N.2.2 = M.2.2
theorem FrP.rf (M : wm_M) : FrP M M := ⟨fun _ _ => rfl, fun _ _ => rfl, rfl⟩
theorem FrP.tr {M N O : wm_M} (h : FrP M N) (h2 : FrP N O) : FrP M O := ⟨fun c hc => (h2.1 c hc).trans (h.1 c hc), fun c hc => (h2.2.1 c hc).trans (h.2.1 c hc), h2.2.2.trans h.2.2⟩
theorem FrP.J {M : wm_M} {k : Nat} {f : Nat → Int64} (h : 68 ≤ k ∧ k < 92) : FrP M (wJa M k f) := ⟨fun _ _ => rfl, fun c hc => wJa_n (by omega), rfl⟩
theorem FrP.I {M : wm_M} {f : Nat → Int32} : FrP M (wIa M 69 f) := ⟨fun c hc => wIa_n hc, fun _ _ => rfl, rfl⟩
theorem Fr.P {M N : wm_M} (h : Fr [69] [] M N) : FrP M N := ⟨fun c hc => h.1 c (nin1 hc), fun c _ => h.2.1 c (by simp), h.2.2⟩
theorem FrP.w {M N : wm_M} {w h : Nat} (hF : FrP M N) (hW : TW M w h) : TW N w h := hW.fr (hF.1 17 (by decide))
theorem RecOk.fr {M N : wm_M} {w h rn : Nat} (hR : RecOk M w h rn) (h54 : N.1 54 = M.1 54) (h55 : N.1 55 = M.1 55) (h56 : N.1 56 = M.1 56) (h57 : N.1 57 = M.1 57) (h64 : N.1 64 = M.1 64) : RecOk N w h rn := by
  unfold RecOk RE; rw [h54, h55, h56, h57, h64]; exact hR
theorem FrP.r {M N : wm_M} {w h rn : Nat} (hF : FrP M N) (hR : RecOk M w h rn) : RecOk N w h rn := hR.fr (hF.1 54 (by decide)) (hF.1 55 (by decide)) (hF.1 56 (by decide)) (hF.1 57 (by decide)) (hF.1 64 (by decide))
theorem RecOk.es {M : wm_M} {w h rn : Nat} (hR : RecOk M w h rn) (hwh : w + h < 100) : ∀ e, e < rn → eS M e < w + h := fun e he => by
  obtain ⟨y, st, en, h9⟩ := hR.2.2 e he
  rw [(h9.eq hwh).2.1]; exact h9.2.2.2.1
theorem fitB_fr {M N : wm_M} {w h rn y s : Nat} (h18 : N.1 18 = M.1 18) (h19 : N.1 19 = M.1 19) (h55 : N.1 55 = M.1 55) (h56 : N.1 56 = M.1 56) (h57 : N.1 57 = M.1 57) (h60 : ∀ e, e < 4 → N.1 (60 + e) = M.1 (60 + e)) (hr : rn ≤ 4) : fitB N w h rn y s = fitB M w h rn y s := by
  unfold fitB
  apply wAll_cong
  intro e he
  unfold enB eY eS eE
  rw [h18, h19, h55, h56, h57, h60 e (by omega)]
theorem FrP.fit {M N : wm_M} {w h rn y s : Nat} (hF : FrP M N) (hr : rn ≤ 4) : fitB N w h rn y s = fitB M w h rn y s := fitB_fr (hF.1 18 (by decide)) (hF.1 19 (by decide)) (hF.1 55 (by decide)) (hF.1 56 (by decide)) (hF.1 57 (by decide)) (fun e he => hF.1 _ (by omega)) hr
/-- only the two arrays of ways may have changed, and which is which -/
def FrW (M N : wm_M) : Prop := (∀ c, c ≠ 70 → c ≠ 71 → N.1 c = M.1 c) ∧ N.2.1 = M.2.1 ∧ ∀ d, 2 ≤ d → N.2.2 d = M.2.2 d
theorem FrW.rf (M : wm_M) : FrW M M := ⟨fun _ _ _ => rfl, rfl, fun _ _ => rfl⟩
theorem FrW.tr {M N O : wm_M} (h : FrW M N) (h2 : FrW N O) : FrW M O := ⟨fun c hc hd => (h2.1 c hc hd).trans (h.1 c hc hd), h2.2.1.trans h.2.1, fun d hd => (h2.2.2 d hd).trans (h.2.2 d hd)⟩
theorem dt_01 (b : Bool) : wm_dt 0 b = 70 ∨ wm_dt 0 b = 71 := by cases b <;> simp [wm_dt]
theorem dt_ne (b : Bool) : wm_dt 0 b ≠ wm_dt 0 (!b) := by cases b <;> simp [wm_dt]
theorem dt_sh (b : Bool) : wm_sh (wm_dt 0 b) = .inr (0, 4096, 0, 0) := by cases b <;> rfl
theorem FrW.I {M : wm_M} {b : Bool} {f : Nat → Int32} : FrW M (wIa M (wm_dt 0 b) f) := ⟨fun c hc hd => wIa_n (fun e => by rcases dt_01 b with q | q <;> rw [q] at e <;> omega), rfl, fun _ _ => rfl⟩
theorem FrW.D {M : wm_M} {d : Nat} {b : Bool} (hd : d < 2) : FrW M (wD M d b) := ⟨fun _ _ _ => rfl, rfl, fun d' hd' => if_neg (by omega)⟩
theorem wD_s {M : wm_M} {d : Nat} {b : Bool} : (wD M d b).2.2 d = b := if_pos rfl
theorem wD_n {M : wm_M} {d d' : Nat} {b : Bool} (h : d' ≠ d) : (wD M d b).2.2 d' = M.2.2 d' := if_neg h
/-- the states that one turn of stone k leads from, below i, added -/
def spT (f g : Nat → Int32) (S k m i : Nat) : Nat → Int32 := fun t => if t < S ∧ sMv t k (4 - m) < i then g t + f (sMv t k (4 - m)) else g t
theorem spT_0 {f g : Nat → Int32} {S k m : Nat} : spT f g S k m 0 = g := by funext t; unfold spT; rw [if_neg (by omega)]
theorem spT_s {f g : Nat → Int32} {n k m i : Nat} (hn : n ≤ 6) (hk : k < n) (hm : m ≤ 4) (hi : i < 4 ^ n) : upd (spT f g (4 ^ n) k m i) (sMv i k m) (spT f g (4 ^ n) k m i (sMv i k m) + f i) = spT f g (4 ^ n) k m (i + 1) := by
  have e1 : sMv (sMv i k m) k (4 - m) = i := sMv_inv (by omega) (by rw [show m + (4 - m) = 4 by omega])
  have h1 : sMv i k m < 4 ^ n := sMv_lt hi hk
  funext t
  by_cases ht : t = sMv i k m
  · subst ht; rw [upd_s]; unfold spT; rw [e1, if_neg (by omega), if_pos ⟨h1, by omega⟩]
  · rw [upd_n ht]; unfold spT
    by_cases h2 : t < 4 ^ n ∧ sMv t k (4 - m) < i
    · rw [if_pos h2, if_pos ⟨h2.1, by omega⟩]
    · rw [if_neg h2, if_neg]
      intro h3
      apply h2
      refine ⟨h3.1, ?_⟩
      rcases Nat.lt_or_eq_of_le (Nat.le_of_lt_succ h3.2) with q | q
      · exact q
      · exfalso; apply ht; rw [← q]
        exact (sMv_inv (by omega) (by rw [show 4 - m + m = 4 by omega])).symm
theorem spT_id {f g : Nat → Int32} {S k m i : Nat} (hk : k < 6) (hm : m ≤ 4) (h : f i = 0) : spT f g S k m (i + 1) = spT f g S k m i := by
  funext t; unfold spT
  by_cases h2 : t < S ∧ sMv t k (4 - m) < i
  · rw [if_pos h2, if_pos ⟨h2.1, by omega⟩]
  · by_cases h3 : t < S ∧ sMv t k (4 - m) < i + 1
    · have : sMv t k (4 - m) = i := by omega
      rw [if_neg h2, if_pos h3, this, h]; exact Int32.add_zero _
    · rw [if_neg h2, if_neg h3]
theorem spT_S {f g : Nat → Int32} {n k m t : Nat} (hn : n ≤ 6) (hk : k < n) (ht : t < 4 ^ n) : spT f g (4 ^ n) k m (4 ^ n) t = g t + f (sMv t k (4 - m)) := if_pos ⟨ht, sMv_lt ht hk⟩
theorem p4_le {n : Nat} (h : n ≤ 6) : 4 ^ n ≤ 4096 := Nat.pow_le_pow_right (by decide) h
/-- behind the spreading -/
def SpP (M : wm_M) (m : Nat) (b : Bool) (f : Nat → Nat) (v : Option Value) (N : wm_M) : Prop := v = none ∧ FrW M N ∧ N.2.2 0 = !b ∧ N.2.2 1 = b ∧ ∀ t, t < 4 ^ m → N.1 (wm_dt 0 (!b)) t = nI (f t + wSum (fun j => if 0 < sStep (M.1 18 j) then f (sMv t j (4 - sStep (M.1 18 j))) else 0) m)
/-- behind isTold -/
def LvIs (M C : wm_M) (w h rn n : Nat) : Prop := ∀ k, k ≤ n → ∀ s, s < 4096 → sb (M.2.1 (72 + 2 * k + 1)) s = lvB C w h rn n (n - k) s
def TdP (M : wm_M) (w h rn n : Nat) (v : Option Value) (N : wm_M) : Prop := v = some (.int (wB (wAny (fwB M w h rn n) 4096))) ∧ FrP M N ∧ LvIs N M w h rn n
def kpB (L : Nat → Nat → Bool) (y : Int32) (T : Nat → Bool) : Nat → Nat → Bool := fun k s => L k s && (!decide (y = nI k) || T s)
def chN (kd : Nat → Int32) (m : Nat) : Nat := 1 + m - wCnt (fun k => isOfB (kd k) 2) m
def WtP (M : wm_M) (m n last : Nat) (L : Nat → Nat → Bool) (v : Option Value) (N : wm_M) : Prop := v = some (.int (nI (wSum (wyN (M.1 18) m L last) (4 ^ m) * chN (M.1 18) m ^ (n - last)))) ∧ FrW M N ∧ N.2.2 1 = !N.2.2 0
theorem cpy0 {α : Type} {f g : Nat → α} {n j : Nat} (h : j < n) : va_cpy f g 0 0 n j = f j := by
  unfold va_cpy; rw [if_pos ⟨Nat.zero_le _, by omega⟩]; simp
theorem wTo_nx {f g : Nat → Int32} {i : Nat} (h : f i = g i) : wTo f g i = wTo f g (i + 1) := by
  funext j; unfold wTo
  by_cases h1 : j < i
  · rw [if_pos h1, if_pos (by omega)]
  · by_cases h2 : j = i
    · subst h2; rw [if_neg h1, if_pos (by omega), h]
    · rw [if_neg h1, if_neg (by omega)]
def preN (kd : Nat → Int32) (m : Nat) (L : Nat → Nat → Bool) : Nat → Nat → Nat
  | 0, s => if s = 0 then 1 else 0
  | k + 1, s => wyN kd m L k s + wSum (fun j => if 0 < sStep (kd j) then wyN kd m L k (sMv s j (4 - sStep (kd j))) else 0) m
theorem wyN_pre (kd : Nat → Int32) (m : Nat) (L : Nat → Nat → Bool) : ∀ k s, wyN kd m L k s = if L k s then preN kd m L k s else 0
  | 0, _ => rfl
  | _ + 1, _ => rfl
def tiB (M : wm_M) (y j : Nat) : Bool := decide (0 < sStep (M.1 18 j)) && !wAll (fun s => !(sb (M.2.1 (72 + 2 * y + 1)) s && sb (M.2.1 (72 + 2 * (y - 1) + 1)) (sMv s j (4 - sStep (M.1 18 j))))) 4096
