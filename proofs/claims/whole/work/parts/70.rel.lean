/-! ===== the class's own invariant, and how the reference's memory stands to the class's ===== -/
def cTwn (C : wm_M) (w h : Nat) : Prop := TW C w h ∧ ((w = 0 ∧ h = 0) ∨ (1 ≤ w ∧ 1 ≤ h))
def cStn (C : wm_M) (n : Nat) : Prop := (∀ k, k < n → ∃ x, x < 6 ∧ C.1 18 k = nI x) ∧ (∀ k, k < n → (isOfB (C.1 18 k) 1 = true ∧ ∃ j, j < 4 ∧ C.1 20 k = nI j) ∨ (isOfB (C.1 18 k) 1 = false ∧ C.1 20 k = -9)) ∧ ∀ k, k < n → ∀ i, i < 4 → (C.1 18 k = 4 ∧ C.1 20 k = nI i ∧ C.1 19 (4 * k + i) = -1) ∨ (¬ (C.1 18 k = 4 ∧ C.1 20 k = nI i) ∧ ∃ x, x < 8 ∧ C.1 19 (4 * k + i) = nI x)
def hadS (C : wm_M) (n s : Nat) : Prop := s < 4 ^ n ∧ prodB (hadN (C.1 18) n) s = true
def cNow (C : wm_M) (n s yr : Nat) : Prop := C.1 0 12 = nI s ∧ C.1 0 13 = nI yr ∧ yr ≤ 999 ∧ hadS C n s
def cRow (C : wm_M) : Prop := ∀ r, r < 6 → C.1 9 r = -1 ∨ ∃ z, z ≤ 60 ∧ C.1 9 r = nI z
def cTxt (C : wm_M) : Prop := ∀ r, r < 4 → C.1 16 r = -1 ∨ ∃ z, z ≤ 80 ∧ C.1 16 r = nI z
def cLaw (C : wm_M) : Prop := ∀ l, l < 4 → C.1 35 l = -1 ∨ ∃ z, LZ C l z ∧ ∀ i, i < z → ∃ x, x < 8 ∧ C.1 (31 + l) i = nI x
def cKep (C : wm_M) (n : Nat) : Prop := ∀ k, k < 3 → C.1 95 k = -1 ∨ ∃ y s, y ≤ 999 ∧ C.1 95 k = nI y ∧ C.1 94 k = nI s ∧ hadS C n s
def cLen (C : wm_M) : Prop := C.1 1 0 = nI 60 ∧ C.1 10 0 = nI 80 ∧ C.1 29 0 = nI 3 ∧ C.1 58 0 = nI 3
def cSet (C : wm_M) (w h : Nat) : Prop := ∀ l, l < 4 → ∀ s, s < 4096 → sb (C.2.1 (38 + 2 * l + 1)) s = stL C w h l s
def cDyn (C : wm_M) : Prop := C.2.2 1 = !C.2.2 0
def CI (C : wm_M) (w h rn s yr : Nat) : Prop := cTwn C w h ∧ cStn C (w * h) ∧ cNow C (w * h) s yr ∧ cRow C ∧ cTxt C ∧ cLaw C ∧ cKep C (w * h) ∧ RecOk C w h rn ∧ cLen C ∧ cSet C w h ∧ cDyn C
theorem cTwn.fr {C N : wm_M} {w h : Nat} (q : cTwn C w h) (h17 : N.1 17 = C.1 17) : cTwn N w h := ⟨q.1.fr h17, q.2⟩
theorem cStn.fr {C N : wm_M} {n : Nat} (q : cStn C n) (h18 : N.1 18 = C.1 18) (h19 : N.1 19 = C.1 19) (h20 : N.1 20 = C.1 20) : cStn N n := by unfold cStn; rw [h18, h19, h20]; exact q
theorem hadS.fr {C N : wm_M} {n s : Nat} (q : hadS C n s) (h18 : N.1 18 = C.1 18) : hadS N n s := by unfold hadS; rw [h18]; exact q
theorem cNow.fr {C N : wm_M} {n s yr : Nat} (q : cNow C n s yr) (h0 : N.1 0 = C.1 0) (h18 : N.1 18 = C.1 18) : cNow N n s yr := by unfold cNow hadS; rw [h0, h18]; exact q
theorem cRow.fr {C N : wm_M} (q : cRow C) (h9 : N.1 9 = C.1 9) : cRow N := by unfold cRow; rw [h9]; exact q
theorem cTxt.fr {C N : wm_M} (q : cTxt C) (h9 : N.1 16 = C.1 16) : cTxt N := by unfold cTxt; rw [h9]; exact q
theorem cLaw.fr {C N : wm_M} (q : cLaw C) (h35 : N.1 35 = C.1 35) (h31 : ∀ l, l < 4 → N.1 (31 + l) = C.1 (31 + l)) : cLaw N := fun l hl => by
  rcases q l hl with q | ⟨z, q, q2⟩
  · left; rw [h35]; exact q
  · right; exact ⟨z, q.fr h35, fun i hi => by rw [h31 l hl]; exact q2 i hi⟩
theorem cKep.fr {C N : wm_M} {n : Nat} (q : cKep C n) (h94 : N.1 94 = C.1 94) (h95 : N.1 95 = C.1 95) (h18 : N.1 18 = C.1 18) : cKep N n := by unfold cKep hadS; rw [h94, h95, h18]; exact q
theorem cLen.fr {C N : wm_M} (q : cLen C) (h1 : N.1 1 = C.1 1) (h10 : N.1 10 = C.1 10) (h29 : N.1 29 = C.1 29) (h58 : N.1 58 = C.1 58) : cLen N := by unfold cLen; rw [h1, h10, h29, h58]; exact q
theorem cSet.fr {C N : wm_M} {w h : Nat} (q : cSet C w h) (h18 : N.1 18 = C.1 18) (h19 : N.1 19 = C.1 19) (h35 : N.1 35 = C.1 35) (h31 : ∀ l, l < 4 → N.1 (31 + l) = C.1 (31 + l)) (hJ : ∀ l, l < 4 → N.2.1 (38 + 2 * l + 1) = C.2.1 (38 + 2 * l + 1)) : cSet N w h := fun l hl s hs => by
  rw [hJ l hl, q l hl s hs, stL_fr h18 h19 (h31 l hl) h35]
/-- the class's cells that only help, and that nothing later looks at -/
def scB (c : Nat) : Bool := decide (22 ≤ c ∧ c ≤ 28) || (decide (c = 37) || (decide (c = 46) || (decide (c = 53) || decide (69 ≤ c ∧ c ≤ 71))))
def sjB (c : Nat) : Bool := decide (48 ≤ c ∧ c ≤ 52) || decide (68 ≤ c ∧ c ≤ 91)
def EqR (C N : wm_M) : Prop := (∀ c, scB c = false → N.1 c = C.1 c) ∧ (∀ c, sjB c = false → N.2.1 c = C.2.1 c) ∧ (∀ d, 2 ≤ d → N.2.2 d = C.2.2 d) ∧ (cDyn C → cDyn N)
theorem EqR.rf (C : wm_M) : EqR C C := ⟨fun _ _ => rfl, fun _ _ => rfl, fun _ _ => rfl, id⟩
theorem EqR.tr {C N O : wm_M} (h : EqR C N) (h2 : EqR N O) : EqR C O := ⟨fun c hc => (h2.1 c hc).trans (h.1 c hc), fun c hc => (h2.2.1 c hc).trans (h.2.1 c hc), fun d hd => (h2.2.2.1 d hd).trans (h.2.2.1 d hd), fun q => h2.2.2.2 (h.2.2.2 q)⟩
theorem EqR.l31 {C N : wm_M} (h : EqR C N) (l : Nat) (hl : l < 4) : N.1 (31 + l) = C.1 (31 + l) := h.1 _ (by unfold scB; simp; omega)
theorem EqR.l60 {C N : wm_M} (h : EqR C N) (l : Nat) (hl : l < 4) : N.1 (60 + l) = C.1 (60 + l) := h.1 _ (by unfold scB; simp; omega)
theorem EqR.l38 {C N : wm_M} (h : EqR C N) (l : Nat) (hl : l < 4) : N.2.1 (38 + 2 * l + 1) = C.2.1 (38 + 2 * l + 1) := h.2.1 _ (by unfold sjB; simp; omega)
theorem CI.eq {C N : wm_M} {w h rn s yr : Nat} (q : CI C w h rn s yr) (e : EqR C N) : CI N w h rn s yr := by
  obtain ⟨q1, q2, q3, q4, q5, q6, q7, q8, q9, q10, q11⟩ := q
  exact ⟨q1.fr (e.1 17 rfl), q2.fr (e.1 18 rfl) (e.1 19 rfl) (e.1 20 rfl), q3.fr (e.1 0 rfl) (e.1 18 rfl), q4.fr (e.1 9 rfl), q5.fr (e.1 16 rfl), q6.fr (e.1 35 rfl) e.l31, q7.fr (e.1 94 rfl) (e.1 95 rfl) (e.1 18 rfl), q8.fr (e.1 54 rfl) (e.1 55 rfl) (e.1 56 rfl) (e.1 57 rfl) (e.1 64 rfl), q9.fr (e.1 1 rfl) (e.1 10 rfl) (e.1 29 rfl) (e.1 58 rfl), q10.fr (e.1 18 rfl) (e.1 19 rfl) (e.1 35 rfl) e.l31 e.l38, e.2.2.2 q11⟩
/-- what is told is no part of it -/
theorem CI.told {C N : wm_M} {w h rn s yr : Nat} (q : CI C w h rn s yr) (e : ∀ c, c ≠ 92 → c ≠ 93 → N.1 c = C.1 c) (eJ : ∀ c, c ≠ 92 → N.2.1 c = C.2.1 c) (eD : N.2.2 = C.2.2) : CI N w h rn s yr := by
  obtain ⟨q1, q2, q3, q4, q5, q6, q7, q8, q9, q10, q11⟩ := q
  have e9 : ∀ c, c < 92 ∨ 93 < c → N.1 c = C.1 c := fun c hc => e c (by omega) (by omega)
  exact ⟨q1.fr (e9 17 (by decide)), q2.fr (e9 18 (by decide)) (e9 19 (by decide)) (e9 20 (by decide)), q3.fr (e9 0 (by decide)) (e9 18 (by decide)), q4.fr (e9 9 (by decide)), q5.fr (e9 16 (by decide)), q6.fr (e9 35 (by decide)) (fun l hl => e9 _ (by omega)), q7.fr (e9 94 (by decide)) (e9 95 (by decide)) (e9 18 (by decide)), q8.fr (e9 54 (by decide)) (e9 55 (by decide)) (e9 56 (by decide)) (e9 57 (by decide)) (e9 64 (by decide)), q9.fr (e9 1 (by decide)) (e9 10 (by decide)) (e9 29 (by decide)) (e9 58 (by decide)), q10.fr (e9 18 (by decide)) (e9 19 (by decide)) (e9 35 (by decide)) (fun l hl => e9 _ (by omega)) (fun l hl => eJ _ (by omega)), by unfold cDyn; rw [eD]; exact q11⟩
/-! the reference: N's cells from 96 on against C's below -/
def xTld (C N : wm_M) : Prop := N.1 96 0 = C.1 92 3 ∧ (∀ f, f < 6 → N.1 97 f = C.1 93 f) ∧ N.1 96 2 = C.1 92 0 ∧ N.2.1 96 3 = C.2.1 92 1 ∧ N.2.1 96 4 = C.2.1 92 2
def xRow (C N : wm_M) : Prop := (∀ r, r < 6 → N.1 98 r = C.1 9 r) ∧ ∀ r, r < 6 → ∀ z, z ≤ 60 → C.1 9 r = nI z → ∀ i, i < z → N.1 99 (60 * r + i) = C.1 (3 + r) i
def xTxt (C N : wm_M) : Prop := (∀ r, r < 4 → N.1 101 r = C.1 16 r) ∧ ∀ r, r < 4 → ∀ z, z ≤ 80 → C.1 16 r = nI z → ∀ i, i < z → N.1 102 (80 * r + i) = C.1 (12 + r) i
def xStn (C N : wm_M) (w h : Nat) : Prop := N.1 96 10 = nI w ∧ N.1 96 11 = nI h ∧ N.1 96 12 = nI (w * h) ∧ (∀ k, k < w * h → N.1 103 k = C.1 18 k) ∧ (∀ j, j < 4 * (w * h) → N.1 104 j = C.1 19 j) ∧ (∀ k, k < w * h → N.1 105 k = C.1 20 k) ∧ ∀ k, k < w * h → C.1 18 k = 1 → N.1 106 k = C.1 21 k
def xNow (N : wm_M) (n s yr : Nat) : Prop := (∀ k, k < n → N.1 107 k = nI (sQ s k)) ∧ N.1 96 18 = nI yr
def xLaw (C N : wm_M) : Prop := (∀ l, l < 4 → N.1 109 l = C.1 35 l) ∧ ∀ l, l < 4 → ∀ z, z ≤ 3 → C.1 35 l = nI z → ∀ i, i < z → N.1 110 (3 * l + i) = C.1 (31 + l) i
def xKep (C N : wm_M) : Prop := ∀ k, k < 3 → (C.1 95 k = -1 ∧ N.1 112 k = -1) ∨ (¬ C.1 95 k = -1 ∧ N.1 112 k = C.1 94 k ∧ N.1 113 k = C.1 95 k)
def xEng (C N : wm_M) (w h rn : Nat) : Prop := N.1 96 36 = nI rn ∧ ∀ e, e < rn → N.1 119 (6 * e) = C.1 55 e ∧ N.1 119 (6 * e + 1) = C.1 56 e ∧ N.1 119 (6 * e + 2) = C.1 57 e ∧ ∀ i, i < sLen w h (eS C e) → N.1 119 (6 * e + 3 + i) = C.1 (60 + e) i
def xDyn (N : wm_M) : Prop := N.2.2 3 = !N.2.2 2
def XR (C N : wm_M) (w h rn s yr : Nat) : Prop := xTld C N ∧ xRow C N ∧ xTxt C N ∧ xStn C N w h ∧ xNow N (w * h) s yr ∧ xLaw C N ∧ xKep C N ∧ xEng C N w h rn ∧ xDyn N
theorem xTld.fr {C N C' N' : wm_M} (q : xTld C N) (h0 : N'.1 96 0 = N.1 96 0) (h2 : N'.1 96 2 = N.1 96 2) (h3 : N'.2.1 96 3 = N.2.1 96 3) (h4 : N'.2.1 96 4 = N.2.1 96 4) (h97 : N'.1 97 = N.1 97) (e : C'.1 92 = C.1 92) (e3 : C'.1 93 = C.1 93) (eJ : C'.2.1 92 = C.2.1 92) : xTld C' N' := by unfold xTld; rw [h0, h2, h3, h4, h97, e, e3, eJ]; exact q
theorem xRow.fr {C N C' N' : wm_M} (q : xRow C N) (h98 : N'.1 98 = N.1 98) (h99 : N'.1 99 = N.1 99) (e9 : C'.1 9 = C.1 9) (e : ∀ r, r < 6 → C'.1 (3 + r) = C.1 (3 + r)) : xRow C' N' := by
  unfold xRow; rw [h98, h99, e9]; exact ⟨q.1, fun r hr z hz h i hi => by rw [e r hr]; exact q.2 r hr z hz h i hi⟩
theorem xTxt.fr {C N C' N' : wm_M} (q : xTxt C N) (h98 : N'.1 101 = N.1 101) (h99 : N'.1 102 = N.1 102) (e9 : C'.1 16 = C.1 16) (e : ∀ r, r < 4 → C'.1 (12 + r) = C.1 (12 + r)) : xTxt C' N' := by
  unfold xTxt; rw [h98, h99, e9]; exact ⟨q.1, fun r hr z hz h i hi => by rw [e r hr]; exact q.2 r hr z hz h i hi⟩
theorem xStn.fr {C N C' N' : wm_M} {w h : Nat} (q : xStn C N w h) (h10 : N'.1 96 10 = N.1 96 10) (h11 : N'.1 96 11 = N.1 96 11) (h12 : N'.1 96 12 = N.1 96 12) (h3 : N'.1 103 = N.1 103) (h4 : N'.1 104 = N.1 104) (h5 : N'.1 105 = N.1 105) (h6 : N'.1 106 = N.1 106) (e18 : C'.1 18 = C.1 18) (e19 : C'.1 19 = C.1 19) (e20 : C'.1 20 = C.1 20) (e21 : C'.1 21 = C.1 21) : xStn C' N' w h := by unfold xStn; rw [h10, h11, h12, h3, h4, h5, h6, e18, e19, e20, e21]; exact q
theorem xNow.fr {N N' : wm_M} {n s yr : Nat} (q : xNow N n s yr) (h7 : N'.1 107 = N.1 107) (h18 : N'.1 96 18 = N.1 96 18) : xNow N' n s yr := by unfold xNow; rw [h7, h18]; exact q
theorem xLaw.fr {C N C' N' : wm_M} (q : xLaw C N) (h9 : N'.1 109 = N.1 109) (h10 : N'.1 110 = N.1 110) (e35 : C'.1 35 = C.1 35) (e : ∀ l, l < 4 → C'.1 (31 + l) = C.1 (31 + l)) : xLaw C' N' := by
  unfold xLaw; rw [h9, h10, e35]; exact ⟨q.1, fun r hr z hz h i hi => by rw [e r hr]; exact q.2 r hr z hz h i hi⟩
theorem xKep.fr {C N C' N' : wm_M} (q : xKep C N) (h2 : N'.1 112 = N.1 112) (h3 : N'.1 113 = N.1 113) (e4 : C'.1 94 = C.1 94) (e5 : C'.1 95 = C.1 95) : xKep C' N' := by unfold xKep; rw [h2, h3, e4, e5]; exact q
theorem xEng.fr {C N C' N' : wm_M} {w h rn : Nat} (q : xEng C N w h rn) (hr : rn ≤ 4) (h36 : N'.1 96 36 = N.1 96 36) (h9 : N'.1 119 = N.1 119) (e5 : C'.1 55 = C.1 55) (e6 : C'.1 56 = C.1 56) (e7 : C'.1 57 = C.1 57) (e : ∀ l, l < 4 → C'.1 (60 + l) = C.1 (60 + l)) : xEng C' N' w h rn := by
  unfold xEng; rw [h36, h9, e5, e6, e7]
  exact ⟨q.1, fun i hi => ⟨(q.2 i hi).1, (q.2 i hi).2.1, (q.2 i hi).2.2.1, fun j hj => by rw [e i (by omega)]; exact (q.2 i hi).2.2.2 j (by unfold eS at hj ⊢; rw [e6] at hj; exact hj)⟩⟩
/-- the reference's cells and places that only help -/
def xsB (c : Nat) : Bool := decide (c = 96) || (decide (c = 100) || (decide (c = 108) || (decide (c = 111) || decide (114 ≤ c ∧ c ≤ 118))))
def xpB (j : Nat) : Bool := decide (19 ≤ j ∧ j ≤ 23) || decide (j = 33)
def FrX (N O : wm_M) : Prop := (∀ c, xsB c = false → O.1 c = N.1 c) ∧ (∀ j, xpB j = false → O.1 96 j = N.1 96 j) ∧ (∀ c, c < 96 ∨ 121 < c → O.2.1 c = N.2.1 c) ∧ (∀ j, j ≠ 40 → O.2.1 96 j = N.2.1 96 j) ∧ (∀ d, d < 2 → O.2.2 d = N.2.2 d) ∧ (xDyn N → xDyn O)
theorem FrX.rf (N : wm_M) : FrX N N := ⟨fun _ _ => rfl, fun _ _ => rfl, fun _ _ => rfl, fun _ _ => rfl, fun _ _ => rfl, id⟩
theorem FrX.tr {N O P : wm_M} (h : FrX N O) (k : FrX O P) : FrX N P := ⟨fun c hc => (k.1 c hc).trans (h.1 c hc), fun c hc => (k.2.1 c hc).trans (h.2.1 c hc), fun c hc => (k.2.2.1 c hc).trans (h.2.2.1 c hc), fun c hc => (k.2.2.2.1 c hc).trans (h.2.2.2.1 c hc), fun c hc => (k.2.2.2.2.1 c hc).trans (h.2.2.2.2.1 c hc), fun q => k.2.2.2.2.2 (h.2.2.2.2.2 q)⟩
theorem XR.fr {C N O : wm_M} {w h rn s yr : Nat} (q : XR C N w h rn s yr) (hr : rn ≤ 4) (e : FrX N O) : XR C O w h rn s yr := by
  obtain ⟨q1, q2, q3, q4, q5, q6, q7, q8, q9⟩ := q
  exact ⟨q1.fr (e.2.1 0 rfl) (e.2.1 2 rfl) (e.2.2.2.1 3 (by decide)) (e.2.2.2.1 4 (by decide)) (e.1 97 rfl) rfl rfl rfl, q2.fr (e.1 98 rfl) (e.1 99 rfl) rfl (fun _ _ => rfl), q3.fr (e.1 101 rfl) (e.1 102 rfl) rfl (fun _ _ => rfl), q4.fr (e.2.1 10 rfl) (e.2.1 11 rfl) (e.2.1 12 rfl) (e.1 103 rfl) (e.1 104 rfl) (e.1 105 rfl) (e.1 106 rfl) rfl rfl rfl rfl, q5.fr (e.1 107 rfl) (e.2.1 18 rfl), q6.fr (e.1 109 rfl) (e.1 110 rfl) rfl (fun _ _ => rfl), q7.fr (e.1 112 rfl) (e.1 113 rfl) rfl rfl, q8.fr hr (e.2.1 36 rfl) (e.1 119 rfl) rfl rfl rfl (fun _ _ => rfl), e.2.2.2.2.2 q9⟩
/-- the class's side may be another memory that is like it -/
theorem XR.eqC {C D N : wm_M} {w h rn s yr : Nat} (q : XR C N w h rn s yr) (hr : rn ≤ 4) (e : EqR C D) : XR D N w h rn s yr := by
  obtain ⟨q1, q2, q3, q4, q5, q6, q7, q8, q9⟩ := q
  exact ⟨q1.fr rfl rfl rfl rfl rfl (e.1 92 rfl) (e.1 93 rfl) (e.2.1 92 rfl), q2.fr rfl rfl (e.1 9 rfl) (fun r hr => e.1 _ (by unfold scB; simp; omega)), q3.fr rfl rfl (e.1 16 rfl) (fun r hr => e.1 _ (by unfold scB; simp; omega)), q4.fr rfl rfl rfl rfl rfl rfl rfl (e.1 18 rfl) (e.1 19 rfl) (e.1 20 rfl) (e.1 21 rfl), q5, q6.fr rfl rfl (e.1 35 rfl) e.l31, q7.fr rfl rfl (e.1 94 rfl) (e.1 95 rfl), q8.fr hr rfl rfl (e.1 55 rfl) (e.1 56 rfl) (e.1 57 rfl) e.l60, q9⟩
/-- the reference's side may be another memory with the same cells from 96 on -/
theorem XR.eqN {C N O : wm_M} {w h rn s yr : Nat} (q : XR C N w h rn s yr) (hr : rn ≤ 4) (e : ∀ c, 96 ≤ c → O.1 c = N.1 c) (eJ : O.2.1 96 = N.2.1 96) (eD : ∀ d, 2 ≤ d → O.2.2 d = N.2.2 d) : XR C O w h rn s yr := by
  obtain ⟨q1, q2, q3, q4, q5, q6, q7, q8, q9⟩ := q
  have e6 := e 96 (by decide)
  exact ⟨q1.fr (by rw [e6]) (by rw [e6]) (by rw [eJ]) (by rw [eJ]) (e 97 (by decide)) rfl rfl rfl, q2.fr (e 98 (by decide)) (e 99 (by decide)) rfl (fun _ _ => rfl), q3.fr (e 101 (by decide)) (e 102 (by decide)) rfl (fun _ _ => rfl), q4.fr (by rw [e6]) (by rw [e6]) (by rw [e6]) (e 103 (by decide)) (e 104 (by decide)) (e 105 (by decide)) (e 106 (by decide)) rfl rfl rfl rfl, q5.fr (e 107 (by decide)) (by rw [e6]), q6.fr (e 109 (by decide)) (e 110 (by decide)) rfl (fun _ _ => rfl), q7.fr (e 112 (by decide)) (e 113 (by decide)) rfl rfl, q8.fr hr (by rw [e6]) (e 119 (by decide)) rfl rfl rfl (fun _ _ => rfl), by unfold xDyn; rw [eD 3 (by decide), eD 2 (by decide)]; exact q9⟩
/-- the reference leaves the class's cells alone -/
def FrM (N O : wm_M) : Prop := (∀ c, c < 96 → O.1 c = N.1 c) ∧ (∀ c, c < 96 → O.2.1 c = N.2.1 c) ∧ ∀ d, d < 2 → O.2.2 d = N.2.2 d
theorem FrM.rf (N : wm_M) : FrM N N := ⟨fun _ _ => rfl, fun _ _ => rfl, fun _ _ => rfl⟩
theorem FrM.tr {N O P : wm_M} (h : FrM N O) (k : FrM O P) : FrM N P := ⟨fun c hc => (k.1 c hc).trans (h.1 c hc), fun c hc => (k.2.1 c hc).trans (h.2.1 c hc), fun c hc => (k.2.2 c hc).trans (h.2.2 c hc)⟩
theorem FrM.I {N : wm_M} {k : Nat} {f : Nat → Int32} (h : 96 ≤ k) : FrM N (wIa N k f) := ⟨fun c hc => wIa_n (by omega), fun _ _ => rfl, fun _ _ => rfl⟩
theorem FrM.J {N : wm_M} {k : Nat} {f : Nat → Int64} (h : 96 ≤ k) : FrM N (wJa N k f) := ⟨fun _ _ => rfl, fun c hc => wJa_n (by omega), fun _ _ => rfl⟩
theorem FrM.D {N : wm_M} {d : Nat} {b : Bool} (h : 2 ≤ d) : FrM N (wD N d b) := ⟨fun _ _ => rfl, fun _ _ => rfl, fun d' hd' => wD_n (by omega)⟩
theorem FrX.m {N O : wm_M} (e : FrX N O) : FrM N O := ⟨fun c hc => e.1 c (by unfold xsB; simp; omega), fun c hc => e.2.2.1 c (Or.inl hc), e.2.2.2.2.1⟩
theorem FrX.I {N : wm_M} {k : Nat} {f : Nat → Int32} (h : xsB k = true) (h6 : k ≠ 96) : FrX N (wIa N k f) := ⟨fun c hc => wIa_n (fun e => by rw [e, h] at hc; cases hc), fun j _ => by rw [wIa_n (Ne.symm h6)], fun _ _ => rfl, fun _ _ => rfl, fun _ _ => rfl, id⟩
theorem FrX.P {N : wm_M} {j : Nat} {x : Int32} (h : xpB j = true) : FrX N (wI N 96 j x) := ⟨fun c hc => wI_c (fun e => by rw [e] at hc; cases hc), fun i hi => wI_ne (fun e => by rw [e.2, h] at hi; cases hi), fun _ _ => rfl, fun _ _ => rfl, fun _ _ => rfl, id⟩
theorem FrX.J {N : wm_M} {k : Nat} {f : Nat → Int64} (h : k = 120 ∨ k = 121) : FrX N (wJa N k f) := ⟨fun _ _ => rfl, fun _ _ => rfl, fun c hc => wJa_n (by omega), fun j _ => by rw [wJa_n (by omega)], fun _ _ => rfl, id⟩
theorem FrX.D {N : wm_M} {b : Bool} : FrX N (wD (wD N 2 b) 3 (!b)) := ⟨fun _ _ => rfl, fun _ _ => rfl, fun _ _ => rfl, fun _ _ => rfl, fun d' hd' => by rw [wD_n (by omega), wD_n (by omega)], fun _ => by unfold xDyn; rw [wD_s, wD_n (by decide), wD_s]⟩
/-! findings and tellings -/
def xNote (N : wm_M) (f : Nat) : wm_M := wI (wI N 96 0 (nI f)) 97 f (N.1 97 f + 1)
def tTell (C : wm_M) (x : Int32) : wm_M := wI C 92 0 x
def xTell (N : wm_M) (x : Int32) : wm_M := wI N 96 2 x
def tFr2 (C : wm_M) (a b : Int64) : wm_M := wJ (wJ C 92 1 a) 92 2 b
def xFr2 (N : wm_M) (a b : Int64) : wm_M := wJ (wJ N 96 3 a) 96 4 b
theorem CI.note {C : wm_M} {w h rn s yr f : Nat} (q : CI C w h rn s yr) : CI (tNote C f) w h rn s yr := q.told (fun c h1 h2 => by unfold tNote; rw [wI_c h2, wI_c h1]) (fun _ _ => rfl) rfl
theorem CI.tell {C : wm_M} {w h rn s yr : Nat} {x : Int32} (q : CI C w h rn s yr) : CI (tTell C x) w h rn s yr := q.told (fun c h1 h2 => wI_c h1) (fun _ _ => rfl) rfl
theorem CI.frac {C : wm_M} {w h rn s yr : Nat} {a b : Int64} (q : CI C w h rn s yr) : CI (tFr2 C a b) w h rn s yr := q.told (fun c h1 h2 => rfl) (fun c hc => by unfold tFr2 wJ; rw [wJa_n hc, wJa_n hc]) rfl
theorem XR.tld {C N C' N' : wm_M} {w h rn s yr : Nat} (q : XR C N w h rn s yr) (hr : rn ≤ 4) (t : xTld C' N') (e : ∀ c, c ≠ 92 → c ≠ 93 → C'.1 c = C.1 c) (f : ∀ c, c ≠ 96 → c ≠ 97 → N'.1 c = N.1 c) (f6 : ∀ j, j ≠ 0 → j ≠ 2 → N'.1 96 j = N.1 96 j) (fD : N'.2.2 = N.2.2) : XR C' N' w h rn s yr := by
  obtain ⟨q1, q2, q3, q4, q5, q6, q7, q8, q9⟩ := q
  have e9 : ∀ c, c < 92 ∨ 93 < c → C'.1 c = C.1 c := fun c hc => e c (by omega) (by omega)
  have f9 : ∀ c, 97 < c → N'.1 c = N.1 c := fun c hc => f c (by omega) (by omega)
  exact ⟨t, q2.fr (f9 98 (by decide)) (f9 99 (by decide)) (e9 9 (by decide)) (fun r hr => e9 _ (by omega)), q3.fr (f9 101 (by decide)) (f9 102 (by decide)) (e9 16 (by decide)) (fun r hr => e9 _ (by omega)), q4.fr (f6 10 (by decide) (by decide)) (f6 11 (by decide) (by decide)) (f6 12 (by decide) (by decide)) (f9 103 (by decide)) (f9 104 (by decide)) (f9 105 (by decide)) (f9 106 (by decide)) (e9 18 (by decide)) (e9 19 (by decide)) (e9 20 (by decide)) (e9 21 (by decide)), q5.fr (f9 107 (by decide)) (f6 18 (by decide) (by decide)), q6.fr (f9 109 (by decide)) (f9 110 (by decide)) (e9 35 (by decide)) (fun r hr => e9 _ (by omega)), q7.fr (f9 112 (by decide)) (f9 113 (by decide)) (e9 94 (by decide)) (e9 95 (by decide)), q8.fr hr (f6 36 (by decide) (by decide)) (f9 119 (by decide)) (e9 55 (by decide)) (e9 56 (by decide)) (e9 57 (by decide)) (fun r hr => e9 _ (by omega)), by unfold xDyn; rw [fD]; exact q9⟩
theorem XR.note {C N : wm_M} {w h rn s yr f : Nat} (q : XR C N w h rn s yr) (hr : rn ≤ 4) (hf : f < 6) : XR (tNote C f) (xNote N f) w h rn s yr := by
  obtain ⟨t1, t2, t3, t4, t5⟩ := q.1
  refine q.tld hr ⟨?_, fun g hg => ?_, ?_, t4, t5⟩ (fun c h1 h2 => by unfold tNote; rw [wI_c h2, wI_c h1]) (fun c h1 h2 => by unfold xNote; rw [wI_c h2, wI_c h1]) (fun j h1 _ => by unfold xNote; rw [wI_c (by decide), wI_ne (fun e => h1 e.2)]) rfl
  · unfold tNote xNote; rw [wI_c (by decide), wI_at, wI_c (by decide), wI_at]
  · unfold tNote xNote
    by_cases h9 : g = f
    · subst h9; rw [wI_at, wI_at, t2 g hg]
    · rw [wI_ne (fun e => h9 e.2), wI_ne (fun e => h9 e.2), wI_c (by decide), wI_c (by decide), t2 g hg]
  · unfold tNote xNote; rw [wI_c (by decide), wI_ne (by decide), wI_c (by decide), wI_ne (by decide)]; exact t3
theorem XR.tell {C N : wm_M} {w h rn s yr : Nat} {x : Int32} (q : XR C N w h rn s yr) (hr : rn ≤ 4) : XR (tTell C x) (xTell N x) w h rn s yr := by
  obtain ⟨t1, t2, t3, t4, t5⟩ := q.1
  refine q.tld hr ⟨?_, fun g hg => ?_, ?_, t4, t5⟩ (fun c h1 _ => wI_c h1) (fun c h1 _ => wI_c h1) (fun j _ h2 => wI_ne (fun e => h2 e.2)) rfl
  · unfold tTell xTell; rw [wI_ne (by decide), wI_ne (by decide)]; exact t1
  · unfold tTell xTell; rw [wI_c (by decide), wI_c (by decide)]; exact t2 g hg
  · unfold tTell xTell; rw [wI_at, wI_at]
theorem wJ_at {M : wm_M} {k j : Nat} {x : Int64} : (wJ M k j x).2.1 k j = x := by unfold wJ; rw [wJa_s]; simp [vp_updL]
theorem wJ_ne {M : wm_M} {k j j' : Nat} {x : Int64} (h : j' ≠ j) : (wJ M k j x).2.1 k j' = M.2.1 k j' := by unfold wJ; rw [wJa_s]; simp [vp_updL, h]
theorem XR.frac {C N : wm_M} {w h rn s yr : Nat} {a b : Int64} (q : XR C N w h rn s yr) (hr : rn ≤ 4) : XR (tFr2 C a b) (xFr2 N a b) w h rn s yr := by
  obtain ⟨t1, t2, t3, t4, t5⟩ := q.1
  refine q.tld hr ⟨t1, t2, t3, ?_, ?_⟩ (fun c h1 _ => rfl) (fun c h1 _ => rfl) (fun j _ h2 => rfl) rfl
  · unfold tFr2 xFr2; rw [wJ_ne (by decide), wJ_at, wJ_ne (by decide), wJ_at]
  · unfold tFr2 xFr2; rw [wJ_at, wJ_at]
/-- one call of both: the same answer, and all stands as before -/
def RelA (M : wm_M) : Prop := ∃ w h rn s yr, CI M w h rn s yr ∧ XR M M w h rn s yr
/-- only the class's cells differ -/
def OnlyC (C D : wm_M) : Prop := (∀ c, 96 ≤ c → D.1 c = C.1 c) ∧ (∀ c, 96 ≤ c → D.2.1 c = C.2.1 c) ∧ ∀ d, 2 ≤ d → D.2.2 d = C.2.2 d
theorem OnlyC.rf (C : wm_M) : OnlyC C C := ⟨fun _ _ => rfl, fun _ _ => rfl, fun _ _ => rfl⟩
theorem OnlyC.tr {C D E : wm_M} (h : OnlyC C D) (k : OnlyC D E) : OnlyC C E := ⟨fun c hc => (k.1 c hc).trans (h.1 c hc), fun c hc => (k.2.1 c hc).trans (h.2.1 c hc), fun c hc => (k.2.2 c hc).trans (h.2.2 c hc)⟩
theorem OnlyC.I {C : wm_M} {k : Nat} {f : Nat → Int32} (h : k < 96) : OnlyC C (wIa C k f) := ⟨fun c hc => wIa_n (by omega), fun _ _ => rfl, fun _ _ => rfl⟩
theorem OnlyC.J {C : wm_M} {k : Nat} {f : Nat → Int64} (h : k < 96) : OnlyC C (wJa C k f) := ⟨fun _ _ => rfl, fun c hc => wJa_n (by omega), fun _ _ => rfl⟩
theorem OnlyC.note {C : wm_M} {f : Nat} : OnlyC C (tNote C f) := (OnlyC.I (by decide)).tr (OnlyC.I (by decide))
theorem OnlyC.tell {C : wm_M} {x : Int32} : OnlyC C (tTell C x) := OnlyC.I (by decide)
theorem OnlyC.frac {C : wm_M} {a b : Int64} : OnlyC C (tFr2 C a b) := (OnlyC.J (by decide)).tr (OnlyC.J (by decide))
theorem OnlyC.eq {C D : wm_M} (h : OnlyC C D) {N : wm_M} (e : EqR D N) : OnlyC C N := h.tr ⟨fun c hc => e.1 c (by unfold scB; simp; omega), fun c hc => e.2.1 c (by unfold sjB; simp; omega), e.2.2.1⟩
def StepV (G : wm_G) (tC tM : wm_T) (args : List Value) (M : wm_M) (v : Value) (C' : wm_M) (w h rn s yr w' h' rn' s' yr' : Nat) : Prop :=
  MA G tC (wm_r G 0 :: args) M (fun u N => u = some v ∧ EqR C' N) ∧ CI C' w' h' rn' s' yr' ∧ OnlyC M C' ∧ ∀ N, XR M N w h rn s yr → MA G tM (wm_r G 96 :: args) N (fun u O => u = some v ∧ XR C' O w' h' rn' s' yr' ∧ FrM N O)
def StepA (G : wm_G) (tC tM : wm_T) (args : List Value) (M : wm_M) (w h rn s yr : Nat) : Prop := ∃ v C' w' h' rn' s' yr', StepV G tC tM args M v C' w h rn s yr w' h' rn' s' yr'
theorem XR.only {M D N : wm_M} {w h rn s yr : Nat} (q : XR M M w h rn s yr) (hr : rn ≤ 4) (o : OnlyC M D) (e : EqR D N) : XR M N w h rn s yr := q.eqN hr (o.eq e).1 ((o.eq e).2.1 96 (by decide)) (o.eq e).2.2
/-- behind both calls -/
theorem rel_end {D N O : wm_M} {w h rn s yr : Nat} (ci : CI D w h rn s yr) (e : EqR D N) (x : XR D O w h rn s yr) (m : FrM N O) : RelA O := by
  have hr : rn ≤ 4 := ci.2.2.2.2.2.2.2.1.2.1
  have e2 : EqR D O ∨ True := Or.inr trivial
  have ci2 := ci.eq e
  obtain ⟨q1, q2, q3, q4, q5, q6, q7, q8, q9, q10, q11⟩ := ci2
  have f := m.1
  refine ⟨w, h, rn, s, yr, ⟨q1.fr (f 17 (by decide)), q2.fr (f 18 (by decide)) (f 19 (by decide)) (f 20 (by decide)), q3.fr (f 0 (by decide)) (f 18 (by decide)), q4.fr (f 9 (by decide)), q5.fr (f 16 (by decide)), q6.fr (f 35 (by decide)) (fun l hl => f _ (by omega)), q7.fr (f 94 (by decide)) (f 95 (by decide)) (f 18 (by decide)), q8.fr (f 54 (by decide)) (f 55 (by decide)) (f 56 (by decide)) (f 57 (by decide)) (f 64 (by decide)), q9.fr (f 1 (by decide)) (f 10 (by decide)) (f 29 (by decide)) (f 58 (by decide)), q10.fr (f 18 (by decide)) (f 19 (by decide)) (f 35 (by decide)) (fun l hl => f _ (by omega)) (fun l hl => m.2.1 _ (by omega)), ?_⟩, ?_⟩
  · unfold cDyn; rw [m.2.2 1 (by decide), m.2.2 0 (by decide)]; exact q11
  · have x2 := x.eqC hr e
    obtain ⟨p1, p2, p3, p4, p5, p6, p7, p8, p9⟩ := x2
    exact ⟨p1.fr rfl rfl rfl rfl rfl (f 92 (by decide)) (f 93 (by decide)) (m.2.1 92 (by decide)), p2.fr rfl rfl (f 9 (by decide)) (fun r hr => f _ (by omega)), p3.fr rfl rfl (f 16 (by decide)) (fun r hr => f _ (by omega)), p4.fr rfl rfl rfl rfl rfl rfl rfl (f 18 (by decide)) (f 19 (by decide)) (f 20 (by decide)) (f 21 (by decide)), p5, p6.fr rfl rfl (f 35 (by decide)) (fun r hr => f _ (by omega)), p7.fr rfl rfl (f 94 (by decide)) (f 95 (by decide)), p8.fr hr rfl rfl (f 55 (by decide)) (f 56 (by decide)) (f 57 (by decide)) (fun r hr => f _ (by omega)), p9⟩
