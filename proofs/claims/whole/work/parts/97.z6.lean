/-! ===== the reference: histories ===== -/
def FrH (M N : wm_M) : Prop := (∀ c, c ≠ 111 → N.1 c = M.1 c) ∧ (∀ c, c ≠ 120 → c ≠ 121 → N.2.1 c = M.2.1 c) ∧ N.2.2 = M.2.2
theorem FrH.rf (M : wm_M) : FrH M M := ⟨fun _ _ => rfl, fun _ _ _ => rfl, rfl⟩
theorem FrH.tr {M N O : wm_M} (h : FrH M N) (k : FrH N O) : FrH M O := ⟨fun c a => (k.1 c a).trans (h.1 c a), fun c a b => (k.2.1 c a b).trans (h.2.1 c a b), k.2.2.trans h.2.2⟩
theorem FrH.l {M : wm_M} {f : Nat → Int32} : FrH M (wIa M 111 f) := ⟨fun c h => wIa_n h, fun _ _ _ => rfl, rfl⟩
theorem FrH.J {M : wm_M} {k : Nat} {f : Nat → Int64} (h : k = 120 ∨ k = 121) : FrH M (wJa M k f) := ⟨fun _ _ => rfl, fun c a b => wJa_n (by omega), rfl⟩
theorem FrH.x {M N : wm_M} (h : FrH M N) : FrX M N := ⟨fun c hc => h.1 c (fun e => by rw [e] at hc; cases hc), fun j _ => by rw [h.1 96 (by decide)], fun c hc => h.2.1 c (by omega) (by omega), fun j _ => by rw [h.2.1 96 (by decide) (by decide)], fun d _ => by rw [h.2.2], fun q => by unfold xDyn; rw [h.2.2]; exact q⟩
theorem FrH.stn {C M N : wm_M} {w h : Nat} (k : FrH M N) (q : xStn C M w h) : xStn C N w h := q.fr (by rw [k.1 96 (by decide)]) (by rw [k.1 96 (by decide)]) (by rw [k.1 96 (by decide)]) (k.1 103 (by decide)) (k.1 104 (by decide)) (k.1 105 (by decide)) (k.1 106 (by decide)) rfl rfl rfl rfl
theorem FrH.law {C M N : wm_M} (k : FrH M N) (q : xLaw C M) : xLaw C N := q.fr (k.1 109 (by decide)) (k.1 110 (by decide)) rfl (fun _ _ => rfl)
theorem FrH.eng {C M N : wm_M} {w h rn : Nat} (k : FrH M N) (hr : rn ≤ 4) (q : xEng C M w h rn) : xEng C N w h rn := q.fr hr (by rw [k.1 96 (by decide)]) (k.1 119 (by decide)) rfl rfl rfl (fun _ _ => rfl)
/-- ways forth to a state, and on from it -/
def FWn (C : wm_M) (w h rn : Nat) : Nat → Nat → Nat := wyN (C.1 18) (w * h) (fun y t => fitB C w h rn y t)
def FPn (C : wm_M) (w h rn : Nat) : Nat → Nat → Nat := preN (C.1 18) (w * h) (fun y t => fitB C w h rn y t)
def onN (kd : Nat → Int32) (m : Nat) (A : Nat → Nat → Bool) (n : Nat) : Nat → Nat → Nat
  | 0, t => if A n t then 1 else 0
  | d + 1, t => if A (n - (d + 1)) t then onN kd m A n d t + wSum (fun j => if 0 < sStep (kd j) then onN kd m A n d (sMv t j (sStep (kd j))) else 0) m else 0
def ONn (C : wm_M) (w h rn n : Nat) : Nat → Nat → Nat := onN (C.1 18) (w * h) (fun y t => decide (0 < FWn C w h rn y t)) n
theorem FW_pre (C : wm_M) (w h rn y t : Nat) : FWn C w h rn y t = if fitB C w h rn y t then FPn C w h rn y t else 0 := wyN_pre _ _ _ y t
theorem wSum_mem {f : Nat → Nat} {i : Nat} : ∀ {n : Nat}, i < n → f i ≤ wSum f n
  | 0, h => absurd h (Nat.not_lt_zero _)
  | n + 1, h => by
    simp only [wSum]
    by_cases q : i = n
    · subst q; omega
    · have := wSum_mem (f := f) (i := i) (n := n) (by omega); omega
theorem pow7 {a k : Nat} (ha : a ≤ 7) (hk : k ≤ 9) : a ^ k ≤ 40353607 := Nat.le_trans (Nat.pow_le_pow_left ha k) (Nat.le_trans (Nat.pow_le_pow_right (by decide) hk) (by decide))
theorem mvC7 {kd : Nat → Int32} {m : Nat} (hm : m ≤ 6) : mvC kd m ≤ 7 := by unfold mvC; have := wCnt_le (fun j => decide (0 < sStep (kd j))) m; omega
theorem FW_le {C : wm_M} {w h rn y t : Nat} (hn : w * h ≤ 6) (hy : y ≤ 9) (ht : t < 4 ^ (w * h)) : FWn C w h rn y t ≤ 40353607 := Nat.le_trans (wSum_mem (f := FWn C w h rn y) ht) (Nat.le_trans (wy_le (C.1 18) hn _ y) (pow7 (mvC7 hn) hy))
theorem FP_le {C : wm_M} {w h rn y t : Nat} (hn : w * h ≤ 6) (hy : y ≤ 9) (ht : t < 4 ^ (w * h)) : FPn C w h rn y t ≤ 282475249 := by
  cases y with
  | zero => show (if t = 0 then 1 else 0) ≤ _; split <;> omega
  | succ y =>
    have h1 := FW_le (C := C) (rn := rn) (y := y) hn (by omega) ht
    have h2 : wSum (fun j => if 0 < sStep (C.1 18 j) then FWn C w h rn y (sMv t j (4 - sStep (C.1 18 j))) else 0) (w * h) ≤ w * h * 40353607 := wSum_le (fun j hj => by
      by_cases q : 0 < sStep (C.1 18 j)
      · rw [if_pos q]; exact FW_le hn (by omega) (sMv_lt ht hj)
      · rw [if_neg q]; omega)
    have e : FPn C w h rn (y + 1) t = FWn C w h rn y t + wSum (fun j => if 0 < sStep (C.1 18 j) then FWn C w h rn y (sMv t j (4 - sStep (C.1 18 j))) else 0) (w * h) := rfl
    rw [e]
    have : w * h * 40353607 ≤ 6 * 40353607 := Nat.mul_le_mul_right _ hn
    omega
theorem lg_0 {a : Nat} (ha : a < 2 ^ 62) : lg_cmp (lN a) 0 ≤ 0 ↔ a = 0 := by
  have h := lg_le (a := a) (b := 0) ha (by decide)
  have h2 : 0 < lg_cmp (lN a) 0 ↔ 0 < a := h
  constructor
  · intro q; rcases Nat.eq_zero_or_pos a with e | e
    · exact e
    · exact absurd (h2.mpr e) (Int32.not_lt.mpr q)
  · intro q; exact Int32.not_lt.mp (fun c => by have := h2.mp c; omega)
/-- what has been spread of the states below i -/
def scN (kd : Nat → Int32) (m : Nat) (W : Nat → Nat) (i t : Nat) : Nat := (if t < i then W t else 0) + wSum (fun j => if 0 < sStep (kd j) ∧ sMv t j (4 - sStep (kd j)) < i then W (sMv t j (4 - sStep (kd j))) else 0) m
def scK (kd : Nat → Int32) (m : Nat) (W : Nat → Nat) (i k t : Nat) : Nat := scN kd m W i t + ((if t = i then W i else 0) + wSum (fun j => if 0 < sStep (kd j) ∧ sMv t j (4 - sStep (kd j)) = i then W i else 0) k)
theorem scN_0 (kd : Nat → Int32) (m : Nat) (W : Nat → Nat) (t : Nat) : scN kd m W 0 t = 0 := by
  unfold scN; rw [if_neg (by omega), wSum_z (fun j _ => if_neg (by omega))]
theorem scN_s (kd : Nat → Int32) (m : Nat) (W : Nat → Nat) (i t : Nat) : scN kd m W (i + 1) t = scK kd m W i m t := by
  unfold scK scN
  have e1 : wSum (fun j => if 0 < sStep (kd j) ∧ sMv t j (4 - sStep (kd j)) < i + 1 then W (sMv t j (4 - sStep (kd j))) else 0) m = wSum (fun j => if 0 < sStep (kd j) ∧ sMv t j (4 - sStep (kd j)) < i then W (sMv t j (4 - sStep (kd j))) else 0) m + wSum (fun j => if 0 < sStep (kd j) ∧ sMv t j (4 - sStep (kd j)) = i then W i else 0) m := by
    rw [← wSum_add]
    refine wSum_cong (fun j _ => ?_)
    by_cases q : 0 < sStep (kd j)
    · rcases Nat.lt_trichotomy (sMv t j (4 - sStep (kd j))) i with a | a | a
      · rw [if_pos ⟨q, by omega⟩, if_pos ⟨q, a⟩, if_neg (fun c => by omega)]; rfl
      · rw [if_pos ⟨q, by omega⟩, if_neg (fun c => by omega), if_pos ⟨q, a⟩, a, Nat.zero_add]
      · rw [if_neg (fun c => by omega), if_neg (fun c => by omega), if_neg (fun c => by omega)]
    · rw [if_neg (fun c => q c.1), if_neg (fun c => q c.1), if_neg (fun c => q c.1)]
  rw [e1]
  have e2 : (if t < i + 1 then W t else 0) = (if t < i then W t else 0) + (if t = i then W i else 0) := by
    rcases Nat.lt_trichotomy t i with a | a | a
    · rw [if_pos (by omega), if_pos a, if_neg (by omega)]; rfl
    · subst a; rw [if_pos (by omega), if_neg (by omega), if_pos rfl, Nat.zero_add]
    · rw [if_neg (by omega), if_neg (by omega), if_neg (by omega)]
  rw [e2]; omega
theorem scN_id {kd : Nat → Int32} {m : Nat} {W : Nat → Nat} {i : Nat} (h : W i = 0) (t : Nat) : scN kd m W (i + 1) t = scN kd m W i t := by
  rw [scN_s]; unfold scK; rw [h, wSum_z (fun j _ => by split <;> rfl)]; split <;> omega
theorem scN_n {kd : Nat → Int32} {m : Nat} {W : Nat → Nat} {t : Nat} (ht : t < 4 ^ m) : scN kd m W (4 ^ m) t = W t + wSum (fun j => if 0 < sStep (kd j) then W (sMv t j (4 - sStep (kd j))) else 0) m := by
  unfold scN; rw [if_pos ht]; congr 1
  refine wSum_cong (fun j hj => ?_)
  by_cases q : 0 < sStep (kd j)
  · rw [if_pos ⟨q, sMv_lt ht hj⟩, if_pos q]
  · rw [if_neg (fun c => q c.1), if_neg q]
theorem scK_s {kd : Nat → Int32} {m : Nat} {W : Nat → Nat} {i k t : Nat} : scK kd m W i (k + 1) t = scK kd m W i k t + (if 0 < sStep (kd k) ∧ sMv t k (4 - sStep (kd k)) = i then W i else 0) := by
  unfold scK; simp only [wSum]; omega
theorem mv_back {t u k q : Nat} (hk : k < 6) (hq : q ≤ 4) : sMv t k (4 - q) = u ↔ t = sMv u k q := by
  constructor
  · intro e; rw [← e, sMv_inv hk (by omega)]
  · intro e; rw [e, sMv_inv hk (by omega)]
theorem enB_w {C : wm_M} {w h e s : Nat} : enB C w h e s = wAll (fun i => decide (wordR C w h s (eS C e) (eE C e) i = C.1 (60 + e) i)) (sLen w h (eS C e)) := rfl
def ftP (C : wm_M) (w h y s e : Nat) : Bool := !decide (eY C e = y) || enB C w h e s
theorem ft_all (C : wm_M) (w h rn y s : Nat) : fitB C w h rn y s = wAll (ftP C w h y s) rn := rfl
theorem wJ_o {M : wm_M} {k j k' j' : Nat} {x : Int64} (h : ¬ (k' = k ∧ j' = j)) : (wJ M k j x).2.1 k' j' = M.2.1 k' j' := by
  by_cases q : k' = k
  · subst q; exact wJ_ne (fun e => h ⟨rfl, e⟩)
  · unfold wJ; rw [wJa_n q]
theorem fp_of {C : wm_M} {w h rn y i t : Nat} (he : y = 0 ∨ i = 4 ^ (w * h)) (ht : t < 4 ^ (w * h)) : (if y = 0 then (if t = 0 then 1 else 0) else scN (C.1 18) (w * h) (FWn C w h rn (y - 1)) i t) = FPn C w h rn y t := by
  cases y with
  | zero => rw [if_pos rfl]; rfl
  | succ y =>
    rw [if_neg (by omega)]
    rcases he with q | q
    · omega
    · rw [q, scN_n ht]; rfl
theorem on_0 {kd : Nat → Int32} {m n y t : Nat} {F : Nat → Nat → Nat} (hA : F y t = 0) (hy : y ≤ n) : onN kd m (fun y t => decide (0 < F y t)) n (n - y) t = 0 := by
  have e : decide (0 < F y t) = false := decide_eq_false (by omega)
  cases hd : n - y with
  | zero => rw [show y = n by omega] at e; show (if decide (0 < F n t) then _ else _) = _; rw [e]; rfl
  | succ d => rw [show y = n - (d + 1) by omega] at e; show (if decide (0 < F (n - (d + 1)) t) then _ else _) = _; rw [e]; rfl
theorem on_1 {kd : Nat → Int32} {m n t : Nat} {F : Nat → Nat → Nat} (hA : 0 < F n t) : onN kd m (fun y t => decide (0 < F y t)) n 0 t = 1 := by
  show (if decide (0 < F n t) then _ else _) = _; rw [decide_eq_true hA]; rfl
theorem on_s {kd : Nat → Int32} {m n y t : Nat} {F : Nat → Nat → Nat} (hA : 0 < F y t) (hy : y ≤ n) : onN kd m (fun y t => decide (0 < F y t)) n (n - y) t = if y = n then 1 else onN kd m (fun y t => decide (0 < F y t)) n (n - y - 1) t + wSum (fun j => if 0 < sStep (kd j) then onN kd m (fun y t => decide (0 < F y t)) n (n - y - 1) (sMv t j (sStep (kd j))) else 0) m := by
  by_cases q : y = n
  · subst q; rw [if_pos rfl, Nat.sub_self]; exact on_1 hA
  · rw [if_neg q]
    obtain ⟨d, hd⟩ : ∃ d, n - y = d + 1 := ⟨n - y - 1, by omega⟩
    rw [hd, Nat.add_sub_cancel]
    show (if decide (0 < F (n - (d + 1)) t) then _ else _) = _
    rw [show n - (d + 1) = y by omega, decide_eq_true hA, if_pos rfl]
