/-! ===== the reference reads a town's text ===== -/
def RX (M : wm_M) (r sz : Nat) (ch : Nat → Int32) : Prop := r < 4 ∧ M.1 101 r = nI sz ∧ sz ≤ 80 ∧ (∀ p, (if p < sz then M.1 102 (80 * r + p) else 0) = ch p) ∧ ∀ p, sz ≤ p → ch p = 0
def FrR (M N : wm_M) : Prop := (∀ c, c ≠ 96 → c ≠ 108 → N.1 c = M.1 c) ∧ (∀ j, j < 19 ∨ 23 < j → N.1 96 j = M.1 96 j) ∧ N.2 = M.2
theorem FrR.rf (M : wm_M) : FrR M M := ⟨fun _ _ _ => rfl, fun _ _ => rfl, rfl⟩
theorem FrR.tr {M N O : wm_M} (h : FrR M N) (k : FrR N O) : FrR M O := ⟨fun c a b => (k.1 c a b).trans (h.1 c a b), fun j hj => (k.2.1 j hj).trans (h.2.1 j hj), k.2.2.trans h.2.2⟩
theorem FrR.P {M : wm_M} {j : Nat} {x : Int32} (h : 19 ≤ j ∧ j ≤ 23) : FrR M (wI M 96 j x) := ⟨fun c a _ => wI_c a, fun i hi => wI_ne (fun e => by omega), rfl⟩
theorem FrR.S {M : wm_M} {j : Nat} {x : Int32} : FrR M (wI M 108 j x) := ⟨fun c _ b => wI_c b, fun i _ => by rw [wI_c (by decide)], rfl⟩
theorem FrR.x {M N : wm_M} (h : FrR M N) : FrX M N := ⟨fun c hc => h.1 c (fun e => by rw [e] at hc; cases hc) (fun e => by rw [e] at hc; cases hc), fun j hj => h.2.1 j (by unfold xpB at hj; simp at hj; omega), fun c _ => by rw [h.2.2], fun j _ => by rw [h.2.2], fun d _ => by rw [h.2.2], fun q => by unfold xDyn; rw [h.2.2]; exact q⟩
theorem FrR.rx {M N : wm_M} {r sz : Nat} {ch : Nat → Int32} (h : FrR M N) (q : RX M r sz ch) : RX N r sz ch := by
  unfold RX; rw [h.1 101 (by decide) (by decide), h.1 102 (by decide) (by decide)]; exact q
theorem RX.lt {M : wm_M} {r sz p : Nat} {ch : Nat → Int32} {a b : Int32} (h : RX M r sz ch) (ha : 0 < a) (hi : inC (ch p) a b = true) : p < sz := by
  rcases Nat.lt_or_ge p sz with q | q
  · exact q
  · rw [h.2.2.2.2 p q] at hi
    simp [inC] at hi
    exact absurd ha (by rw [Int32.not_lt]; exact hi.1)
def sgnM (M : wm_M) (p : Nat) (x lo hi : Int32) : wm_M := wI (wI M 96 20 (x - lo)) 96 19 (nI (if inC x lo hi then p + 1 else p))
theorem sgn_fr {M : wm_M} {p : Nat} {x lo hi : Int32} : FrR M (sgnM M p x lo hi) := (FrR.P (by decide)).tr (FrR.P (by decide))
theorem sgn_19t {M : wm_M} {p : Nat} {x lo hi : Int32} (h : inC x lo hi = true) : (sgnM M p x lo hi).1 96 19 = nI (p + 1) := by unfold sgnM; rw [wI_at, if_pos h]
theorem sgn_19f {M : wm_M} {p : Nat} {x lo hi : Int32} (h : inC x lo hi = false) : (sgnM M p x lo hi).1 96 19 = nI p := by unfold sgnM; rw [wI_at, if_neg (by rw [h]; decide)]
theorem sgn_20 {M : wm_M} {p : Nat} {x lo hi : Int32} : (sgnM M p x lo hi).1 96 20 = x - lo := by unfold sgnM; rw [wI_ne (by decide), wI_at]
theorem sgn_o {M : wm_M} {p j : Nat} {x lo hi : Int32} (h1 : j ≠ 19) (h2 : j ≠ 20) : (sgnM M p x lo hi).1 96 j = M.1 96 j := by unfold sgnM; rw [wI_ne (fun e => h1 e.2), wI_ne (fun e => h2 e.2)]
theorem sgn_c {M : wm_M} {p c : Nat} {x lo hi : Int32} (h : c ≠ 96) : (sgnM M p x lo hi).1 c = M.1 c := by unfold sgnM; rw [wI_c h, wI_c h]
def GdQ (M : wm_M) (ch : Nat → Int32) (p : Nat) (v : Option Value) (N : wm_M) : Prop := ∃ (q : Nat) (ok : Bool), v = some (.int (wB ok)) ∧ FrR M N ∧ N.1 96 19 = nI q ∧ N.1 108 = M.1 108 ∧ N.1 96 23 = M.1 96 23 ∧ (ok = true → q = p + 3 ∧ inC (ch p) 103 103 = true ∧ inC (ch (p + 1)) 49 51 = true ∧ inC (ch (p + 2)) 49 50 = true ∧ N.1 96 21 = ch (p + 1) - 49 + 1 ∧ N.1 96 22 = ch (p + 2) - 49 + 1) ∧ (ok = false → (inC (ch p) 103 103 = false ∧ q = p) ∨ (inC (ch p) 103 103 = true ∧ inC (ch (p + 1)) 49 51 = false ∧ q = p + 1) ∨ (inC (ch p) 103 103 = true ∧ inC (ch (p + 1)) 49 51 = true ∧ inC (ch (p + 2)) 49 50 = false ∧ q = p + 2))
/-- the k-th stone as the reference has read it at p -/
def RS (N : wm_M) (ch : Nat → Int32) (k p : Nat) : Prop := N.1 108 (7 * k) = kindC (ch p) ∧ (∀ i, i < 4 → N.1 108 (7 * k + 1 + i) = if kindC (ch p) = 4 ∧ ch (p + 5) - 48 = nI i then -1 else ch (p + 1 + i) - 97) ∧ N.1 108 (7 * k + 5) = (if isOfB (kindC (ch p)) 1 then ch (p + 5) - 48 else -9) ∧ (kindC (ch p) = 1 → N.1 108 (7 * k + 6) = ch (p + 6) - 97)
theorem RS.keep {N O : wm_M} {ch : Nat → Int32} {k p : Nat} (h : RS N ch k p) (e : ∀ j, j < 7 * k + 7 → O.1 108 j = N.1 108 j) : RS O ch k p := ⟨(e _ (by omega)).trans h.1, fun i hi => (e _ (by omega)).trans (h.2.1 i hi), (e _ (by omega)).trans h.2.2.1, fun q => (e _ (by omega)).trans (h.2.2.2 q)⟩
def StQ (M : wm_M) (ch : Nat → Int32) (k wh p : Nat) (v : Option Value) (N : wm_M) : Prop := ∃ (q : Nat) (ok : Bool), v = some (.int (wB ok)) ∧ FrR M N ∧ N.1 96 19 = nI q ∧ N.1 96 21 = M.1 96 21 ∧ N.1 96 22 = M.1 96 22 ∧ (∀ j, j < 7 * k → N.1 108 j = M.1 108 j) ∧ (ok = true → k < wh ∧ stEnd ch p = (q, true) ∧ N.1 96 23 = nI (k + 1) ∧ RS N ch k p) ∧ (ok = false → (k = wh ∧ q = p) ∨ (k < wh ∧ stEnd ch p = (q, false)))
theorem kind_c : ∀ {c : Int32}, kindC c = -9 ∨ ∃ x, x < 6 ∧ kindC c = nI x := by
  intro c; unfold kindC
  split
  · exact Or.inr ⟨4, by decide, rfl⟩
  · split
    · exact Or.inr ⟨2, by decide, rfl⟩
    · split
      · exact Or.inr ⟨3, by decide, rfl⟩
      · split
        · exact Or.inr ⟨0, by decide, rfl⟩
        · split
          · exact Or.inr ⟨5, by decide, rfl⟩
          · split
            · exact Or.inr ⟨1, by decide, rfl⟩
            · exact Or.inl rfl
theorem wdN_app {ch : Nat → Int32} : ∀ {i n p : Nat}, i ≤ n → (∀ j, j < i → inC (ch (p + j)) 97 104 = true) → wdN ch n p = i + wdN ch (n - i) (p + i)
  | 0, n, p, _, _ => by rw [Nat.zero_add, Nat.sub_zero, Nat.add_zero]
  | i + 1, n, p, hi, h => by
    obtain ⟨m, rfl⟩ : ∃ m, n = m + 1 := ⟨n - 1, by omega⟩
    have h0 := h 0 (by omega)
    rw [Nat.add_zero] at h0
    have ih := wdN_app (ch := ch) (i := i) (n := m) (p := p + 1) (by omega) (fun j hj => by rw [show p + 1 + j = p + (j + 1) by omega]; exact h (j + 1) (by omega))
    simp only [wdN]
    rw [if_pos h0, ih, show m + 1 - (i + 1) = m - i by omega, show p + 1 + i = p + (i + 1) by omega]; omega
theorem wdN_stop {ch : Nat → Int32} {i n p : Nat} (hi : i < n) (h : ∀ j, j < i → inC (ch (p + j)) 97 104 = true) (hf : inC (ch (p + i)) 97 104 = false) : wdN ch n p = i := by
  rw [wdN_app (by omega) h]
  obtain ⟨m, hm⟩ : ∃ m, n - i = m + 1 := ⟨n - i - 1, by omega⟩
  rw [hm]; simp only [wdN]; rw [if_neg (by rw [hf]; decide), Nat.add_zero]
theorem wdN_all {ch : Nat → Int32} {n p : Nat} (h : ∀ j, j < n → inC (ch (p + j)) 97 104 = true) : wdN ch n p = n := by
  rw [wdN_app (Nat.le_refl n) h, Nat.sub_self]; rfl
theorem isOf1 {x : Int32} : isOfB x 1 = true ↔ x = 1 ∨ x = 4 := by
  constructor
  · intro h; rcases isOf_t h with q | ⟨-, q⟩ | ⟨q, -⟩
    · exact Or.inl q
    · exact Or.inr q
    · exact absurd q (by decide)
  · intro h; unfold isOfB; rcases h with q | q <;> rw [q] <;> rfl
/-- what the reading of a text comes to -/
def XtP (M : wm_M) (ch : Nat → Int32) (sz : Nat) (v : Option Value) (N : wm_M) : Prop := v = some (.int (tFault ch sz)) ∧ FrR M N ∧ (tFault ch sz = -9 → gOk ch sz ∧ N.1 96 21 = nI (gW ch sz) ∧ N.1 96 22 = nI (gH ch sz) ∧ N.1 96 23 = nI (gW ch sz * gH ch sz) ∧ ∀ k, k < gW ch sz * gH ch sz → RS N ch k (stAt ch sz k (skp ch sz 0 + 3)))
theorem prest_b {ch : Nat → Int32} {sz j p : Nat} (hp : p < sz) (hb : ch p = 32) : prest ch sz j (p + 1) = prest ch sz j p := by
  cases j <;> simp only [prest] <;> rw [skp_b hp hb]
theorem stAt_b {ch : Nat → Int32} {sz j p : Nat} (hp : p < sz) (hb : ch p = 32) : stAt ch sz j (p + 1) = stAt ch sz j p := by
  cases j <;> simp only [stAt] <;> rw [skp_b hp hb]
theorem kind0 : kindC 0 = -9 := by decide
theorem prest_end {ch : Nat → Int32} {sz j : Nat} (h0 : ch sz = 0) (hj : 0 < j) : prest ch sz j sz = nI sz := by
  have e : stEnd ch (skp ch sz sz) = (sz, false) := by rw [skp_end (Nat.le_refl _)]; exact stEnd_k (by rw [h0]; exact kind0)
  rw [prest_f hj (by rw [e]), e]
theorem stEnd_b {M : wm_M} {r sz : Nat} {ch : Nat → Int32} {p q : Nat} (h : RX M r sz ch) (hp : p < sz) (he : stEnd ch p = (q, true)) : p < q ∧ q ≤ sz := by
  have ech : ch = fun p => ch p := rfl
  unfold stEnd at he
  split at he
  · cases he
  · split at he
    · cases he
    · rename_i h1 h2
      have hw : wdN ch 4 (p + 1) = 4 := by have := wdN_le ch 4 (p + 1); omega
      have h4 : inC (ch (p + 4)) 97 104 = true := by
        simp only [wdN] at hw
        cases q0 : inC (ch (p + 1)) 97 104 <;> simp [q0] at hw
        cases q1 : inC (ch (p + 1 + 1)) 97 104 <;> simp [q1] at hw
        cases q2 : inC (ch (p + 1 + 1 + 1)) 97 104 <;> simp [q2] at hw
        exact hw
      have h5 := h.lt (by decide) h4
      unfold sdEnd at he
      split at he
      · cases he; omega
      · split at he
        · cases he
        · rename_i g1 g2
          have h6 : p + 5 < sz := h.lt (a := 48) (b := 51) (by decide) (by simpa using g2)
          split at he
          · cases he; omega
          · split at he
            · cases he
            · rename_i g3
              have h7 : p + 5 + 1 < sz := h.lt (a := 97) (b := 104) (by decide) (by simpa using g3)
              cases he; omega
/-- where the reading stands at p -/
def FSt (N : wm_M) (ch : Nat → Int32) (sz p : Nat) : Prop := (N.1 96 21 = 0 ∧ N.1 96 22 = 0 ∧ N.1 96 23 = 0 ∧ skp ch sz 0 = skp ch sz p) ∨ (gOk ch sz ∧ N.1 96 21 = nI (gW ch sz) ∧ N.1 96 22 = nI (gH ch sz) ∧ ∃ k, k ≤ gW ch sz * gH ch sz ∧ N.1 96 23 = nI k ∧ tFault ch sz = prest ch sz (gW ch sz * gH ch sz - k) p ∧ (∀ i, stAt ch sz (k + i) (skp ch sz 0 + 3) = stAt ch sz i p) ∧ ∀ i, i < k → RS N ch i (stAt ch sz i (skp ch sz 0 + 3)))
theorem fst_b {N O : wm_M} {ch : Nat → Int32} {sz p : Nat} (h : FSt N ch sz p) (hp : p < sz) (hb : ch p = 32) (e21 : O.1 96 21 = N.1 96 21) (e22 : O.1 96 22 = N.1 96 22) (e23 : O.1 96 23 = N.1 96 23) (e8 : O.1 108 = N.1 108) : FSt O ch sz (p + 1) := by
  rcases h with ⟨a, b, c, d⟩ | ⟨g, a, b, k, hk, c, d, e, f⟩
  · left; exact ⟨e21.trans a, e22.trans b, e23.trans c, d.trans (skp_b hp hb)⟩
  · right; exact ⟨g, e21.trans a, e22.trans b, k, hk, e23.trans c, by rw [prest_b hp hb]; exact d, fun i => by rw [stAt_b hp hb]; exact e i, fun i hi => (f i hi).keep (fun j _ => by rw [e8])⟩
theorem fst_g {N O : wm_M} {r : Nat} {ch : Nat → Int32} {sz p : Nat} (hR : RX N r sz ch) (h : skp ch sz 0 = skp ch sz p) (hp : ¬ ch p = 32) (h23 : O.1 96 23 = 0) (g1 : inC (ch p) 103 103 = true) (g2 : inC (ch (p + 1)) 49 51 = true) (g3 : inC (ch (p + 2)) 49 50 = true) (e21 : O.1 96 21 = ch (p + 1) - 49 + 1) (e22 : O.1 96 22 = ch (p + 2) - 49 + 1) : FSt O ch sz (p + 3) ∧ p + 3 ≤ sz := by
  have e0 : skp ch sz 0 = p := h.trans (skp_n hp)
  have hg : gOk ch sz := by unfold gOk; rw [e0]; exact ⟨g1, g2, g3⟩
  have hl := hR.lt (by decide) g3
  refine ⟨Or.inr ⟨hg, ?_, ?_, 0, Nat.zero_le _, h23, ?_, fun i => by rw [Nat.zero_add, e0], fun i hi => absurd hi (Nat.not_lt_zero _)⟩, by omega⟩
  · have := (gW_of hg.2.1).1; rw [e0] at this; rw [e21]; exact this
  · have := (gH_of hg.2.2).1; rw [e0] at this; rw [e22]; exact this
  · rw [tFault_ok hg, e0, Nat.sub_zero]
theorem fault_g {ch : Nat → Int32} {sz p q : Nat} (h : skp ch sz 0 = skp ch sz p) (hp : ¬ ch p = 32) (hf : (inC (ch p) 103 103 = false ∧ q = p) ∨ (inC (ch p) 103 103 = true ∧ inC (ch (p + 1)) 49 51 = false ∧ q = p + 1) ∨ (inC (ch p) 103 103 = true ∧ inC (ch (p + 1)) 49 51 = true ∧ inC (ch (p + 2)) 49 50 = false ∧ q = p + 2)) : nI q = tFault ch sz := by
  have e0 : skp ch sz 0 = p := h.trans (skp_n hp)
  unfold tFault; rw [e0]
  rcases hf with ⟨a, b⟩ | ⟨a, b, c⟩ | ⟨a, b, c, d⟩
  · rw [if_pos a, b]
  · rw [if_neg (by rw [a]; decide), if_pos b, c]
  · rw [if_neg (by rw [a]; decide), if_neg (by rw [b]; decide), if_pos c, d]
theorem fault_0 {ch : Nat → Int32} {sz : Nat} (h : skp ch sz 0 = skp ch sz sz) (h0 : ch sz = 0) : nI sz = tFault ch sz := by
  have e0 : skp ch sz 0 = sz := h.trans (skp_end (Nat.le_refl _))
  unfold tFault; rw [e0, h0, if_pos (by decide)]
theorem gW_ne {ch : Nat → Int32} {sz : Nat} (h : gOk ch sz) : ¬ nI (gW ch sz) = 0 := nI_ne0 (by have := g_bd h; omega) (by have := g_bd h; omega)
theorem prest_0 {ch : Nat → Int32} {sz p : Nat} (hp : p < sz) (hb : ¬ ch p = 32) : prest ch sz 0 p = nI p := by
  simp only [prest]; rw [skp_n hb, if_neg (by omega)]
theorem prest_00 {ch : Nat → Int32} {sz : Nat} : prest ch sz 0 sz = -9 := by
  simp only [prest]; rw [skp_end (Nat.le_refl _), if_pos (Nat.le_refl _)]
/-- the town as the reference takes it over from what was read in N1 -/
def TwF (N1 N : wm_M) (ch : Nat → Int32) (sz : Nat) : Prop := (∀ c, c ≠ 96 → (c < 103 ∨ 107 < c) → N.1 c = N1.1 c) ∧ (∀ j, j ≠ 10 → j ≠ 11 → j ≠ 12 → N.1 96 j = N1.1 96 j) ∧ N.2 = N1.2 ∧ N.1 96 10 = nI (gW ch sz) ∧ N.1 96 11 = nI (gH ch sz) ∧ N.1 96 12 = nI (gW ch sz * gH ch sz)
theorem TwF.I {N1 N : wm_M} {ch : Nat → Int32} {sz c j : Nat} {x : Int32} (h : TwF N1 N ch sz) (hc : 103 ≤ c ∧ c ≤ 107) : TwF N1 (wI N c j x) ch sz := ⟨fun c2 a b => by rw [wI_c (by omega)]; exact h.1 c2 a b, fun j2 a b d => by rw [wI_c (by omega)]; exact h.2.1 j2 a b d, h.2.2.1, by rw [wI_c (by omega)]; exact h.2.2.2.1, by rw [wI_c (by omega)]; exact h.2.2.2.2.1, by rw [wI_c (by omega)]; exact h.2.2.2.2.2⟩
def TwD (N1 N : wm_M) (j : Nat) : Prop := N.1 103 j = N1.1 108 (7 * j) ∧ (∀ i, i < 4 → N.1 104 (4 * j + i) = N1.1 108 (7 * j + 1 + i)) ∧ N.1 105 j = N1.1 108 (7 * j + 5) ∧ N.1 106 j = N1.1 108 (7 * j + 6) ∧ N.1 107 j = 0
theorem TwD.keep {N1 N : wm_M} {j c p : Nat} {x : Int32} (h : TwD N1 N j) (hw : ∀ i, i < 4 → ¬ (c = 104 ∧ p = 4 * j + i)) (hc : ¬ (c ≠ 104 ∧ p = j)) : TwD N1 (wI N c p x) j := by
  obtain ⟨a, b, d, e, f⟩ := h
  refine ⟨?_, fun i hi => ?_, ?_, ?_, ?_⟩
  · rw [wI_ne (fun q => hc ⟨by omega, q.2.symm⟩)]; exact a
  · rw [wI_ne (fun q => hw i hi ⟨q.1.symm, q.2.symm⟩)]; exact b i hi
  · rw [wI_ne (fun q => hc ⟨by omega, q.2.symm⟩)]; exact d
  · rw [wI_ne (fun q => hc ⟨by omega, q.2.symm⟩)]; exact e
  · rw [wI_ne (fun q => hc ⟨by omega, q.2.symm⟩)]; exact f
def TwQ (M : wm_M) (ch : Nat → Int32) (sz : Nat) (v : Option Value) (N : wm_M) : Prop := v = some (.int (nI (gW ch sz * gH ch sz))) ∧ (∀ c, c ≠ 96 → (c < 103 ∨ 108 < c) → c ≠ 112 → N.1 c = M.1 c) ∧ (∀ j, j ≠ 10 → j ≠ 11 → j ≠ 12 → j ≠ 18 → j ≠ 36 → (j < 19 ∨ 23 < j) → N.1 96 j = M.1 96 j) ∧ N.2 = M.2 ∧ N.1 96 10 = nI (gW ch sz) ∧ N.1 96 11 = nI (gH ch sz) ∧ N.1 96 12 = nI (gW ch sz * gH ch sz) ∧ N.1 96 18 = 0 ∧ N.1 96 36 = 0 ∧ (∀ i, i < 3 → N.1 112 i = -1) ∧ ∀ k, k < gW ch sz * gH ch sz → (fun p => N.1 103 k = kindC (ch p) ∧ (∀ i, i < 4 → N.1 104 (4 * k + i) = if kindC (ch p) = 4 ∧ ch (p + 5) - 48 = nI i then -1 else ch (p + 1 + i) - 97) ∧ N.1 105 k = (if isOfB (kindC (ch p)) 1 then ch (p + 5) - 48 else -9) ∧ (kindC (ch p) = 1 → N.1 106 k = ch (p + 6) - 97) ∧ N.1 107 k = 0) (stAt ch sz k (skp ch sz 0 + 3))
theorem stEnd_7 (ch : Nat → Int32) (p : Nat) : (stEnd ch p).1 ≤ p + 7 := by
  have := wdN_le ch 4 (p + 1)
  unfold stEnd
  split
  · show p ≤ _; omega
  · split
    · show p + 1 + wdN ch 4 (p + 1) ≤ _; omega
    · unfold sdEnd
      split
      · show p + 5 ≤ _; omega
      · split
        · show p + 5 ≤ _; omega
        · split
          · show p + 5 + 1 ≤ _; omega
          · split
            · show p + 5 + 1 ≤ _; omega
            · show p + 5 + 2 ≤ _; omega
