/-! ===== the reference reads: what it needs of both memories ===== -/
/-- the state that is laid -/
def Laid (N : wm_M) (n s : Nat) : Prop := ∀ k, k < n → N.1 111 k = nI (sQ s k)
def XQ (C N : wm_M) (w h s : Nat) : Prop := TW C w h ∧ xStn C N w h ∧ xLaw C N ∧ cLaw C ∧ cStn C (w * h) ∧ Laid N (w * h) s
def lyM (N : wm_M) (n : Nat) (f : Nat → Int32) : wm_M := wIa N 111 (wTo f (N.1 111) n)
theorem hsP : ∀ a, a < 16 → ∀ i, i < 4 → decide (nI a >>> (nI i &&& 31) &&& 1 = 1) = a.testBit i := by decide +kernel
theorem isOf_t {x kd : Int32} (h : isOfB x kd = true) : x = kd ∨ (kd = 1 ∧ x = 4) ∨ (kd = 2 ∧ x = 5) := by
  unfold isOfB at h; simp only [Bool.or_eq_true, Bool.and_eq_true, decide_eq_true_eq] at h; exact h
theorem isOf_f {x kd : Int32} (h : isOfB x kd = false) : ¬ x = kd ∧ ¬ (kd = 1 ∧ x = 4) ∧ ¬ (kd = 2 ∧ x = 5) := by
  unfold isOfB at h
  refine ⟨fun q => ?_, fun q => ?_, fun q => ?_⟩
  · rw [decide_eq_true q] at h; cases h
  · rw [decide_eq_true q.1, decide_eq_true q.2] at h; simp at h
  · rw [decide_eq_true q.1, decide_eq_true q.2] at h; simp at h
theorem tb_msk : ∀ sd, sd < 4 → (15 - 2 ^ sd).testBit sd = false := by decide
def wornR (C : wm_M) (w h s st e i : Nat) : Bool := decide (C.1 18 (sAt w h st e i) = 1) && decide (C.1 20 (sAt w h st e i) = nI (sSide h s (sAt w h st e i) st e))
def isR (C : wm_M) (w h s st e l b i : Nat) : Bool := decide (wordR C w h s st e (b + i) = C.1 (31 + l) i)
def perR (C : wm_M) (w h s st e l b i : Nat) : Bool := isR C w h s st e l b i || (wornR C w h s st e (b + i) && decide (C.1 21 (sAt w h st e (b + i)) = C.1 (31 + l) i))
def lvF (a b c : Bool) : Nat := if a then (if c then 2 else 3) else if b then 1 else 0
theorem lvF_min {f : Nat → Nat} {p q r : Nat → Bool} : ∀ {z : Nat}, (∀ i, i < z → f i = if p i then (if r i then 2 else 3) else if q i then 1 else 0) → (∀ i, i < z → p i = true → q i = true) → minF f z = lvF (wAll p z) (wAll q z) (wAny r z)
  | 0, _, _ => rfl
  | z + 1, h, hq => by
    have ih := lvF_min (z := z) (fun i hi => h i (by omega)) (fun i hi => hq i (by omega))
    have hz := h z (by omega)
    have hzq := hq z (by omega)
    simp only [minF]; rw [ih, hz, wAll_s, wAll_s, wAny_s]
    have hpq : wAll p z = true → wAll q z = true := fun a => wAll_t (fun i hi => hq i (by omega) (wAll_iff.mp a i hi))
    revert hzq hpq
    unfold lvF
    cases wAll p z <;> cases wAll q z <;> cases wAny r z <;> cases p z <;> cases q z <;> cases r z <;> simp
theorem word_lv {C : wm_M} {w h s st e l b i : Nat} (hS : cStn C (w * h)) (hk : sAt w h st e (b + i) < w * h) (hw : ∃ x, x < 8 ∧ C.1 (31 + l) i = nI x) : wordLv (C.1 18) (C.1 19) (C.1 20) (C.1 21) (sAt w h st e (b + i)) (sSide h s (sAt w h st e (b + i)) st e) (C.1 (31 + l) i) = if isR C w h s st e l b i then (if wornR C w h s st e (b + i) then 2 else 3) else if perR C w h s st e l b i then 1 else 0 := by
  obtain ⟨x, hx, ex⟩ := hw
  have hsd : sSide h s (sAt w h st e (b + i)) st e < 4 := Nat.mod_lt _ (by decide)
  unfold perR isR wornR wordR wordLv
  generalize sAt w h st e (b + i) = k at hk hsd ⊢
  generalize sSide h s k st e = sd at hsd ⊢
  by_cases h1 : sShow (C.1 18) (C.1 19) k sd = C.1 (31 + l) i
  · rw [if_pos h1, decide_eq_true h1, if_pos rfl]
    by_cases h2 : C.1 20 k = nI sd
    · have h3 : C.1 18 k = 1 := by
        rcases hS.2.1 k hk with ⟨a, -⟩ | ⟨a, b2⟩
        · rcases hS.2.2 k hk sd hsd with ⟨c1, -, c3⟩ | ⟨c1, -⟩
          · exfalso
            rw [ex] at h1
            unfold sShow at h1
            rw [if_neg (by rw [c1]; decide), c3] at h1
            exact nI_nem1 (by omega) h1.symm
          · unfold isOfB at a
            simp only [decide_true, Bool.true_and, Bool.or_eq_true, decide_eq_true_eq] at a
            rcases a with a | a
            · exact a
            · rcases a with a | a
              · exact absurd ⟨a, h2⟩ c1
              · simp at a
        · rw [h2] at b2; exact absurd b2 (nI_ne9 (by omega))
      rw [if_pos h2, decide_eq_true h2, decide_eq_true h3]; rfl
    · rw [if_neg h2, decide_eq_false h2, Bool.and_false]; rfl
  · rw [if_neg h1, decide_eq_false h1, Bool.false_or]
    simp only [Bool.false_eq_true, if_false]
    by_cases h2 : C.1 20 k = nI sd <;> by_cases h3 : C.1 18 k = 1 <;> by_cases h4 : C.1 21 k = C.1 (31 + l) i <;> simp [h2, h3, h4]
theorem levAt_m {C : wm_M} {w h s st e l b z : Nat} (hS : cStn C (w * h)) (hst : st < w + h) (hb : b + z ≤ sLen w h st) (hw : ∀ i, i < z → ∃ x, x < 8 ∧ C.1 (31 + l) i = nI x) : levAt w h (C.1 18) (C.1 19) (C.1 20) (C.1 21) (C.1 (31 + l)) z s st e b = lvF (wAll (isR C w h s st e l b) z) (wAll (perR C w h s st e l b) z) (wAny (fun i => wornR C w h s st e (b + i)) z) := by
  refine lvF_min (fun i hi => word_lv hS (sAt_lt hst (by omega)) (hw i hi)) (fun i _ q => ?_)
  unfold perR; rw [q, Bool.true_or]
def lvQ (C : wm_M) (w h s l : Nat) : Nat := if C.1 35 l = -1 then 0 else lvl C w h l s
theorem lvQ_le {C : wm_M} {w h s l : Nat} : lvQ C w h s l ≤ 3 := by
  unfold lvQ; split
  · omega
  · exact levB_le
theorem XQ.fr {C N O : wm_M} {w h s : Nat} (q : XQ C N w h s) (e : ∀ j, j = 10 ∨ j = 11 ∨ j = 12 → O.1 96 j = N.1 96 j) (f : ∀ c, 103 ≤ c → c ≤ 106 ∨ c = 109 ∨ c = 110 ∨ c = 111 → O.1 c = N.1 c) : XQ C O w h s := by
  obtain ⟨q1, q2, q3, q4, q5, q6⟩ := q
  refine ⟨q1, q2.fr (e 10 (by omega)) (e 11 (by omega)) (e 12 (by omega)) (f 103 (by omega) (by omega)) (f 104 (by omega) (by omega)) (f 105 (by omega) (by omega)) (f 106 (by omega) (by omega)) rfl rfl rfl rfl, q3.fr (f 109 (by omega) (by omega)) (f 110 (by omega) (by omega)) rfl (fun _ _ => rfl), q4, q5, ?_⟩
  unfold Laid; rw [f 111 (by omega) (by omega)]; exact q6
theorem XQ.lay {C N : wm_M} {w h s s2 : Nat} {f : Nat → Int32} (q1 : TW C w h) (q2 : xStn C N w h) (q3 : xLaw C N) (q4 : cLaw C) (q5 : cStn C (w * h)) (hf : ∀ k, k < w * h → f k = nI (sQ s2 k)) : XQ C (lyM N (w * h) f) w h s2 := by
  refine ⟨q1, q2.fr ?_ ?_ ?_ ?_ ?_ ?_ ?_ rfl rfl rfl rfl, q3.fr ?_ ?_ rfl (fun _ _ => rfl), q4, q5, fun k hk => ?_⟩ <;> unfold lyM
  · rw [wIa_n (by decide)]
  · rw [wIa_n (by decide)]
  · rw [wIa_n (by decide)]
  · rw [wIa_n (by decide)]
  · rw [wIa_n (by decide)]
  · rw [wIa_n (by decide)]
  · rw [wIa_n (by decide)]
  · rw [wIa_n (by decide)]
  · rw [wIa_n (by decide)]
  · rw [wIa_s, wTo_in hk]; exact hf k hk
