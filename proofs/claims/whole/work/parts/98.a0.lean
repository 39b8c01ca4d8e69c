/-! ===== one call of both: the ways in which it may end ===== -/
theorem MD.eq {G : wm_G} {t : wm_T} {av : List Value} {M N' : wm_M} {r : Option Value} (h : MD G t av M r N') : MA G t av M (fun u N => u = r ∧ EqR N' N) := MA.mono h (fun _ _ q => ⟨q.1, q.2 ▸ EqR.rf _⟩)
theorem FrM.note {N : wm_M} {f : Nat} : FrM N (xNote N f) := (FrM.I (by decide)).tr (FrM.I (by decide))
theorem FrM.tell {N : wm_M} {x : Int32} : FrM N (xTell N x) := FrM.I (by decide)
theorem FrM.frac {N : wm_M} {a b : Int64} : FrM N (xFr2 N a b) := (FrM.J (by decide)).tr (FrM.J (by decide))
def StepI (G : wm_G) (tC tM : wm_T) (args : List Value) (M : wm_M) (w h rn s yr : Nat) : Prop := ∃ (v : Int32) (C' : wm_M) (w' h' rn' s' yr' : Nat), StepV G tC tM args M (.int v) C' w h rn s yr w' h' rn' s' yr'
def StepL (G : wm_G) (tC tM : wm_T) (args : List Value) (M : wm_M) (w h rn s yr : Nat) : Prop := ∃ (v : Int64) (C' : wm_M) (w' h' rn' s' yr' : Nat), StepV G tC tM args M (.long v) C' w h rn s yr w' h' rn' s' yr'
section STP
variable {G : wm_G} {tC tM : wm_T} {args : List Value} {M : wm_M} {w h rn s yr : Nat} {v : Int32}
theorem CI.r4 (ci : CI M w h rn s yr) : rn ≤ 4 := ci.2.2.2.2.2.2.2.1.2.1
theorem stp {C' : wm_M} {w' h' rn' s' yr' : Nat} (hc : MA G tC (wm_r G 0 :: args) M (fun u N => u = some (.int v) ∧ EqR C' N)) (ci : CI C' w' h' rn' s' yr') (ho : OnlyC M C') (hm : ∀ N, XR M N w h rn s yr → MA G tM (wm_r G 96 :: args) N (fun u O => u = some (.int v) ∧ XR C' O w' h' rn' s' yr' ∧ FrM N O)) : StepI G tC tM args M w h rn s yr := ⟨v, C', w', h', rn', s', yr', hc, ci, ho, hm⟩
theorem st_sameE (ci : CI M w h rn s yr) (hc : MA G tC (wm_r G 0 :: args) M (fun u N => u = some (.int v) ∧ EqR M N)) (hm : ∀ N, XR M N w h rn s yr → MA G tM (wm_r G 96 :: args) N (fun u O => u = some (.int v) ∧ FrX N O)) : StepI G tC tM args M w h rn s yr :=
  stp hc ci (OnlyC.rf M) (fun N x => MA.mono (hm N x) (fun _ _ q => ⟨q.1, x.fr ci.r4 q.2, q.2.m⟩))
theorem st_same (ci : CI M w h rn s yr) (hc : MD G tC (wm_r G 0 :: args) M (some (.int v)) M) (hm : ∀ N, XR M N w h rn s yr → MD G tM (wm_r G 96 :: args) N (some (.int v)) N) : StepI G tC tM args M w h rn s yr :=
  st_sameE ci hc.eq (fun N x => MA.mono (hm N x) (fun _ _ q => ⟨q.1, q.2 ▸ FrX.rf _⟩))
theorem st_noteE {f : Nat} (hf : f < 6) (ci : CI M w h rn s yr) (hc : MA G tC (wm_r G 0 :: args) M (fun u N => u = some (.int v) ∧ EqR (tNote M f) N)) (hm : ∀ N, XR M N w h rn s yr → MA G tM (wm_r G 96 :: args) N (fun u O => u = some (.int v) ∧ ∃ P, FrX N P ∧ O = xNote P f)) : StepI G tC tM args M w h rn s yr :=
  stp hc ci.note OnlyC.note (fun N x => MA.mono (hm N x) (fun _ _ ⟨a, P, b, c⟩ => ⟨a, by rw [c]; exact (x.fr ci.r4 b).note ci.r4 hf, by rw [c]; exact b.m.tr FrM.note⟩))
theorem st_note {f : Nat} (hf : f < 6) (ci : CI M w h rn s yr) (hc : MD G tC (wm_r G 0 :: args) M (some (.int v)) (tNote M f)) (hm : ∀ N, XR M N w h rn s yr → MD G tM (wm_r G 96 :: args) N (some (.int v)) (xNote N f)) : StepI G tC tM args M w h rn s yr :=
  st_noteE hf ci hc.eq (fun N x => MA.mono (hm N x) (fun _ _ q => ⟨q.1, N, FrX.rf N, q.2⟩))
theorem st_tellE {x : Int32} (ci : CI M w h rn s yr) (hc : MA G tC (wm_r G 0 :: args) M (fun u N => u = some (.int v) ∧ EqR (tTell M x) N)) (hm : ∀ N, XR M N w h rn s yr → MA G tM (wm_r G 96 :: args) N (fun u O => u = some (.int v) ∧ ∃ P, FrX N P ∧ O = xTell P x)) : StepI G tC tM args M w h rn s yr :=
  stp hc ci.tell OnlyC.tell (fun N y => MA.mono (hm N y) (fun _ _ ⟨a, P, b, c⟩ => ⟨a, by rw [c]; exact (y.fr ci.r4 b).tell ci.r4, by rw [c]; exact b.m.tr FrM.tell⟩))
theorem st_tell {x : Int32} (ci : CI M w h rn s yr) (hc : MD G tC (wm_r G 0 :: args) M (some (.int v)) (tTell M x)) (hm : ∀ N, XR M N w h rn s yr → MD G tM (wm_r G 96 :: args) N (some (.int v)) (xTell N x)) : StepI G tC tM args M w h rn s yr :=
  st_tellE ci hc.eq (fun N y => MA.mono (hm N y) (fun _ _ q => ⟨q.1, N, FrX.rf N, q.2⟩))
theorem st_fracE {a b : Int64} (ci : CI M w h rn s yr) (hc : MA G tC (wm_r G 0 :: args) M (fun u N => u = some (.int v) ∧ EqR (tFr2 M a b) N)) (hm : ∀ N, XR M N w h rn s yr → MA G tM (wm_r G 96 :: args) N (fun u O => u = some (.int v) ∧ ∃ P, FrX N P ∧ O = xFr2 P a b)) : StepI G tC tM args M w h rn s yr :=
  stp hc ci.frac OnlyC.frac (fun N y => MA.mono (hm N y) (fun _ _ ⟨a, P, b, c⟩ => ⟨a, by rw [c]; exact (y.fr ci.r4 b).frac ci.r4, by rw [c]; exact b.m.tr FrM.frac⟩))
theorem stL_sameE {v : Int64} (ci : CI M w h rn s yr) (hc : MA G tC (wm_r G 0 :: args) M (fun u N => u = some (.long v) ∧ EqR M N)) (hm : ∀ N, XR M N w h rn s yr → MA G tM (wm_r G 96 :: args) N (fun u O => u = some (.long v) ∧ FrX N O)) : StepL G tC tM args M w h rn s yr :=
  ⟨v, M, w, h, rn, s, yr, hc, ci, OnlyC.rf M, fun N x => MA.mono (hm N x) (fun _ _ q => ⟨q.1, x.fr ci.r4 q.2, q.2.m⟩)⟩
theorem stL_same {v : Int64} (ci : CI M w h rn s yr) (hc : MD G tC (wm_r G 0 :: args) M (some (.long v)) M) (hm : ∀ N, XR M N w h rn s yr → MD G tM (wm_r G 96 :: args) N (some (.long v)) N) : StepL G tC tM args M w h rn s yr :=
  stL_sameE ci hc.eq (fun N x => MA.mono (hm N x) (fun _ _ q => ⟨q.1, q.2 ▸ FrX.rf _⟩))
end STP
/-! rows: the cells 3 to 9 of the class, 98 and 99 of the reference -/
def OnR (C D : wm_M) : Prop := (∀ c, c ≠ 9 → (c < 3 ∨ 8 < c) → D.1 c = C.1 c) ∧ D.2 = C.2
theorem OnR.o {C D : wm_M} (h : OnR C D) : OnlyC C D := ⟨fun c hc => h.1 c (by omega) (by omega), fun c _ => by rw [h.2], fun d _ => by rw [h.2]⟩
theorem CI.row {C D : wm_M} {w h rn s yr : Nat} (q : CI C w h rn s yr) (e : OnR C D) (r : cRow D) : CI D w h rn s yr := by
  obtain ⟨q1, q2, q3, q4, q5, q6, q7, q8, q9, q10, q11⟩ := q
  have f : ∀ c, c < 3 ∨ 9 < c → D.1 c = C.1 c := fun c hc => e.1 c (by omega) (by omega)
  exact ⟨q1.fr (f 17 (by decide)), q2.fr (f 18 (by decide)) (f 19 (by decide)) (f 20 (by decide)), q3.fr (f 0 (by decide)) (f 18 (by decide)), r, q5.fr (f 16 (by decide)), q6.fr (f 35 (by decide)) (fun l hl => f _ (by omega)), q7.fr (f 94 (by decide)) (f 95 (by decide)) (f 18 (by decide)), q8.fr (f 54 (by decide)) (f 55 (by decide)) (f 56 (by decide)) (f 57 (by decide)) (f 64 (by decide)), q9.fr (f 1 (by decide)) (f 10 (by decide)) (f 29 (by decide)) (f 58 (by decide)), q10.fr (f 18 (by decide)) (f 19 (by decide)) (f 35 (by decide)) (fun l hl => f _ (by omega)) (fun l hl => by rw [e.2]), by unfold cDyn; rw [e.2]; exact q11⟩
theorem XR.row {C D N O : wm_M} {w h rn s yr : Nat} (q : XR C N w h rn s yr) (hr : rn ≤ 4) (e : OnR C D) (f : ∀ c, c ≠ 98 → c ≠ 99 → O.1 c = N.1 c) (f2 : O.2 = N.2) (x : xRow D O) : XR D O w h rn s yr := by
  obtain ⟨q1, q2, q3, q4, q5, q6, q7, q8, q9⟩ := q
  have g : ∀ c, c < 3 ∨ 9 < c → D.1 c = C.1 c := fun c hc => e.1 c (by omega) (by omega)
  have k : ∀ c, c < 98 ∨ 99 < c → O.1 c = N.1 c := fun c hc => f c (by omega) (by omega)
  have k6 := k 96 (by decide)
  exact ⟨q1.fr (by rw [k6]) (by rw [k6]) (by rw [f2]) (by rw [f2]) (k 97 (by decide)) (g 92 (by decide)) (g 93 (by decide)) (by rw [e.2]), x, q3.fr (k 101 (by decide)) (k 102 (by decide)) (g 16 (by decide)) (fun r hr => g _ (by omega)), q4.fr (by rw [k6]) (by rw [k6]) (by rw [k6]) (k 103 (by decide)) (k 104 (by decide)) (k 105 (by decide)) (k 106 (by decide)) (g 18 (by decide)) (g 19 (by decide)) (g 20 (by decide)) (g 21 (by decide)), q5.fr (k 107 (by decide)) (by rw [k6]), q6.fr (k 109 (by decide)) (k 110 (by decide)) (g 35 (by decide)) (fun r hr => g _ (by omega)), q7.fr (k 112 (by decide)) (k 113 (by decide)) (g 94 (by decide)) (g 95 (by decide)), q8.fr hr (by rw [k6]) (k 119 (by decide)) (g 55 (by decide)) (g 56 (by decide)) (g 57 (by decide)) (fun r hr => g _ (by omega)), by unfold xDyn; rw [f2]; exact q9⟩
/-! texts likewise -/
def OnX (C D : wm_M) : Prop := (∀ c, c < 12 ∨ 16 < c → D.1 c = C.1 c) ∧ D.2 = C.2
theorem OnX.o {C D : wm_M} (h : OnX C D) : OnlyC C D := ⟨fun c hc => h.1 c (by omega), fun c _ => by rw [h.2], fun d _ => by rw [h.2]⟩
theorem CI.txt {C D : wm_M} {w h rn s yr : Nat} (q : CI C w h rn s yr) (e : OnX C D) (r : cTxt D) : CI D w h rn s yr := by
  obtain ⟨q1, q2, q3, q4, q5, q6, q7, q8, q9, q10, q11⟩ := q
  have f := e.1
  exact ⟨q1.fr (f 17 (by decide)), q2.fr (f 18 (by decide)) (f 19 (by decide)) (f 20 (by decide)), q3.fr (f 0 (by decide)) (f 18 (by decide)), q4.fr (f 9 (by decide)), r, q6.fr (f 35 (by decide)) (fun l hl => f _ (by omega)), q7.fr (f 94 (by decide)) (f 95 (by decide)) (f 18 (by decide)), q8.fr (f 54 (by decide)) (f 55 (by decide)) (f 56 (by decide)) (f 57 (by decide)) (f 64 (by decide)), q9.fr (f 1 (by decide)) (f 10 (by decide)) (f 29 (by decide)) (f 58 (by decide)), q10.fr (f 18 (by decide)) (f 19 (by decide)) (f 35 (by decide)) (fun l hl => f _ (by omega)) (fun l hl => by rw [e.2]), by unfold cDyn; rw [e.2]; exact q11⟩
theorem XR.txt {C D N O : wm_M} {w h rn s yr : Nat} (q : XR C N w h rn s yr) (hr : rn ≤ 4) (e : OnX C D) (f : ∀ c, c ≠ 101 → c ≠ 102 → O.1 c = N.1 c) (f2 : O.2 = N.2) (x : xTxt D O) : XR D O w h rn s yr := by
  obtain ⟨q1, q2, q3, q4, q5, q6, q7, q8, q9⟩ := q
  have g := e.1
  have k : ∀ c, c < 101 ∨ 102 < c → O.1 c = N.1 c := fun c hc => f c (by omega) (by omega)
  have k6 := k 96 (by decide)
  exact ⟨q1.fr (by rw [k6]) (by rw [k6]) (by rw [f2]) (by rw [f2]) (k 97 (by decide)) (g 92 (by decide)) (g 93 (by decide)) (by rw [e.2]), q2.fr (k 98 (by decide)) (k 99 (by decide)) (g 9 (by decide)) (fun r hr => g _ (by omega)), x, q4.fr (by rw [k6]) (by rw [k6]) (by rw [k6]) (k 103 (by decide)) (k 104 (by decide)) (k 105 (by decide)) (k 106 (by decide)) (g 18 (by decide)) (g 19 (by decide)) (g 20 (by decide)) (g 21 (by decide)), q5.fr (k 107 (by decide)) (by rw [k6]), q6.fr (k 109 (by decide)) (k 110 (by decide)) (g 35 (by decide)) (fun r hr => g _ (by omega)), q7.fr (k 112 (by decide)) (k 113 (by decide)) (g 94 (by decide)) (g 95 (by decide)), q8.fr hr (by rw [k6]) (k 119 (by decide)) (g 55 (by decide)) (g 56 (by decide)) (g 57 (by decide)) (fun r hr => g _ (by omega)), by unfold xDyn; rw [f2]; exact q9⟩
/-- a row of the table written anew -/
theorem xRow_set {C D N O : wm_M} {r n : Nat} {f : Nat → Int32} (hx : xRow C N) (hr : r < 6) (hn : n ≤ 60) (d9 : ∀ r2, D.1 9 r2 = if r2 = r then nI n else C.1 9 r2) (d3 : ∀ r2, r2 < 6 → r2 ≠ r → D.1 (3 + r2) = C.1 (3 + r2)) (df : ∀ i, i < n → D.1 (3 + r) i = f i) (o98 : ∀ r2, O.1 98 r2 = if r2 = r then nI n else N.1 98 r2) (o99 : ∀ r2, r2 < 6 → r2 ≠ r → ∀ i, i < 60 → O.1 99 (60 * r2 + i) = N.1 99 (60 * r2 + i)) (of : ∀ i, i < n → O.1 99 (60 * r + i) = f i) : xRow D O := by
  refine ⟨fun r2 h2 => ?_, fun r2 h2 z hz e i hi => ?_⟩
  · rw [d9, o98]; split
    · rfl
    · exact hx.1 r2 h2
  · by_cases q : r2 = r
    · subst q
      rw [d9, if_pos rfl] at e
      have : n = z := (nI_eq (by omega) (by omega)).mp e
      subst this
      rw [of i hi, df i hi]
    · rw [d9, if_neg q] at e
      rw [o99 r2 h2 q i (by omega), d3 r2 h2 q]
      exact hx.2 r2 h2 z hz e i hi
theorem cRow_set {C D : wm_M} {r n : Nat} (h : cRow C) (hn : n ≤ 60) (d9 : ∀ r2, D.1 9 r2 = if r2 = r then nI n else C.1 9 r2) : cRow D := fun r2 h2 => by
  rw [d9]; split
  · exact Or.inr ⟨n, hn, rfl⟩
  · exact h r2 h2
theorem upd_if {f : Nat → Int32} {k : Nat} {x : Int32} (j : Nat) : upd f k x j = if j = k then x else f j := by
  by_cases q : j = k
  · subst q; rw [upd_s, if_pos rfl]
  · rw [upd_n q, if_neg q]
theorem FrM.w {N : wm_M} {k : Nat} {f : Nat → Int32} (h : 96 ≤ k) : FrM N (wIa N k f) := FrM.I h
/-- row r has z places, in both -/
theorem XR.rowz {C N : wm_M} {w h rn s yr r z : Nat} (x : XR C N w h rn s yr) (hr : r < 6) (hz : C.1 9 r = nI z) : N.1 98 r = nI z := (x.2.1.1 r hr).trans hz
theorem XR.rown {C N : wm_M} {w h rn s yr r : Nat} (x : XR C N w h rn s yr) (hr : r < 6) (hz : C.1 9 r = -1) : N.1 98 r = -1 := (x.2.1.1 r hr).trans hz
theorem XR.txtn {C N : wm_M} {w h rn s yr r : Nat} (x : XR C N w h rn s yr) (hr : r < 4) (hz : C.1 16 r = -1) : N.1 101 r = -1 := (x.2.2.1.1 r hr).trans hz
theorem XR.txtz {C N : wm_M} {w h rn s yr r z : Nat} (x : XR C N w h rn s yr) (hr : r < 4) (hz : C.1 16 r = nI z) : N.1 101 r = nI z := (x.2.2.1.1 r hr).trans hz
theorem mSum_cong {f g : Nat → Int32} : ∀ {n : Nat}, (∀ i, i < n → f i = g i) → mSum f n = mSum g n
  | 0, _ => rfl
  | n + 1, h => by simp only [mSum]; rw [mSum_cong (fun i hi => h i (by omega)), h n (by omega)]
