/-! ===== the reference: mend, engravings, counts, digest ===== -/
theorem bs_no {C : wm_M} {w h s set : Nat} {b : Int32} (q : BsP C w h s set (4 ^ (w * h)) b) (hn : w * h ≤ 6) (hb : b = -9) : NrNo C w h set := fun t ht => by
  have h4 := p4_le hn
  rcases q with ⟨-, q⟩ | ⟨u, hu, e, -⟩
  · have := q t ht.1
    unfold gd at this; rw [ht.2, Bool.true_and] at this; exact this
  · rw [hb] at e; exact absurd e.symm (nI_ne9 (by omega))
theorem bs_is {C : wm_M} {w h s set : Nat} {b : Int32} (q : BsP C w h s set (4 ^ (w * h)) b) (hb : ¬ b = -9) : ∃ u, u < 4 ^ (w * h) ∧ b = nI u ∧ NrIs C w h s set u := by
  rcases q with ⟨e, -⟩ | ⟨u, hu, e, g, q1, q2⟩
  · exact absurd e hb
  · have hg := (gd_iff hu).mp g
    exact ⟨u, hu, e, hg.1, hg.2, fun t2 h1 h2 => q1 t2 h1.1 ((gd_iff h1.1).mpr ⟨h1, h2⟩), fun t2 h0 h1 h2 => q2 t2 h0 ((gd_iff h1.1).mpr ⟨h1, h2⟩)⟩
def MxQ (C M : wm_M) (w h s l : Nat) (v : Option Value) (N : wm_M) : Prop := (v = some (.int (-9)) ∧ FrN M N ∧ ∀ p, p < 4 * (w * h) → mdM C (p / 4) (p % 4) = true → ∀ x, x < 8 → NrNo (mdC C p x) w h (2 ^ l)) ∨ ∃ p x t O, p < 4 * (w * h) ∧ x < 8 ∧ mdM C (p / 4) (p % 4) = true ∧ (∀ p2, p2 < p → mdM C (p2 / 4) (p2 % 4) = true → ∀ x2, x2 < 8 → NrNo (mdC C p2 x2) w h (2 ^ l)) ∧ (∀ x2, x2 < x → NrNo (mdC C p x2) w h (2 ^ l)) ∧ NrIs (mdC C p x) w h s (2 ^ l) t ∧ v = some (.int (nI (100 * (p / 4) + 10 * (p % 4) + x))) ∧ FrN M O ∧ N = xTell O (nI (dst (C.1 18) (w * h) s t))
theorem pow_l : ∀ l, l < 4 → 2 ^ l < 16 := by decide
theorem FrN.back {M O N5 : wm_M} {p x : Nat} {y : Int32} (hF : FrN M O) (h5 : FrN (wI O 104 p (nI x)) N5) (hy : y = M.1 104 p) : FrN M (wI N5 104 p y) := by
  refine ⟨fun c a b d => ?_, ?_⟩
  · by_cases q : c = 104
    · subst q; rw [hy]; exact wI_back (fun j hj => by rw [h5.1 104 (by decide) (by decide) (by decide), wI_ne (fun e => hj e.2), hF.1 104 (by decide) (by decide) (by decide)])
    · rw [wI_c q, h5.1 c a b d, wI_c q, hF.1 c a b d]
  · exact h5.2.trans hF.2
/-- an engraving more -/
def exM (M : wm_M) (rn y st e : Nat) (g : Nat → Int32) : wm_M := wI (wIa M 119 (sgF (upd (upd (upd (M.1 119) (6 * rn) (nI y)) (6 * rn + 1) (nI st)) (6 * rn + 2) (nI e)) g (6 * rn + 3) 3)) 96 36 (nI (rn + 1))
theorem wI3 {M : wm_M} {k a b c : Nat} {x y z : Int32} : wI (wI (wI M k a x) k b y) k c z = wIa M k (upd (upd (upd (M.1 k) a x) b y) c z) := by
  unfold wI; rw [wIa_s, wIa_wIa, wIa_s, wIa_wIa]
theorem hw_1 (x : Int32) : inC x (-1) 7 = (!decide (x < -1) && decide (x < 8)) := hw7 x (-1)
/-- counts -/
def ct1 (C : wm_M) (what j : Nat) : Bool := (decide (what = 3) && isOfB (C.1 18 j) 1) || (decide (what = 4) && sFix (C.1 18 j))
def ct2 (C : wm_M) (what r : Nat) : Bool := (decide (what = 2) && !decide (C.1 35 r = -1)) || (decide (what = 7) && !decide (C.1 16 r = -1))
def ct3 (C : wm_M) (what r : Nat) : Bool := decide (what = 6) && !decide (C.1 9 r = -1)
theorem wCnt_zero {p : Nat → Bool} : ∀ {n : Nat}, (∀ i, i < n → p i = false) → wCnt p n = 0
  | 0, _ => rfl
  | n + 1, h => by simp only [wCnt]; rw [wCnt_zero (fun i hi => h i (by omega)), h n (by omega)]; rfl
theorem ct_tal {C : wm_M} {w h rn what : Nat} (h8 : what < 8) (h0 : ¬ what = 0) (h1 : ¬ what = 1) (h5 : ¬ what = 5) : nI (wCnt (ct1 C what) (w * h) + wCnt (ct2 C what) 4 + wCnt (ct3 C what) 6) = tal C w h rn what := by
  have h9 : what = 2 ∨ what = 3 ∨ what = 4 ∨ what = 6 ∨ what = 7 := by omega
  rcases h9 with e | e | e | e | e <;> subst e
  · rw [wCnt_zero (p := ct1 C 2) (fun i _ => rfl), wCnt_zero (p := ct3 C 2) (fun i _ => rfl), wCnt_cong (p := ct2 C 2) (q := fun r => !decide (C.1 35 r = -1)) (fun i _ => by unfold ct2; simp)]; simp [tal]
  · rw [wCnt_zero (p := ct2 C 3) (fun i _ => rfl), wCnt_zero (p := ct3 C 3) (fun i _ => rfl), wCnt_cong (p := ct1 C 3) (q := fun k => isOfB (C.1 18 k) 1) (fun i _ => by unfold ct1; simp)]; simp [tal]
  · rw [wCnt_zero (p := ct2 C 4) (fun i _ => rfl), wCnt_zero (p := ct3 C 4) (fun i _ => rfl), wCnt_cong (p := ct1 C 4) (q := fun k => isOfB (C.1 18 k) 2) (fun i _ => by unfold ct1; rw [isOfB_fix]; simp)]; simp [tal]
  · rw [wCnt_zero (p := ct1 C 6) (fun i _ => rfl), wCnt_zero (p := ct2 C 6) (fun i _ => rfl), wCnt_cong (p := ct3 C 6) (q := fun r => !decide (C.1 9 r = -1)) (fun i _ => by unfold ct3; simp)]; simp [tal]
  · rw [wCnt_zero (p := ct1 C 7) (fun i _ => rfl), wCnt_zero (p := ct3 C 7) (fun i _ => rfl), wCnt_cong (p := ct2 C 7) (q := fun r => !decide (C.1 16 r = -1)) (fun i _ => by unfold ct2; simp)]; simp [tal]
theorem sz_neg {x : Int32} {m : Nat} (hm : m < 2 ^ 31) (h : x = -1 ∨ ∃ z, z ≤ m ∧ x = nI z) : x < 0 ↔ x = -1 := by
  rcases h with q | ⟨z, hz, q⟩
  · rw [q]; simp
  · rw [q]; exact ⟨fun a => absurd a (nI_pos (by omega)), fun a => absurd a (nI_nem1 (by omega))⟩
theorem cLaw_sz {C : wm_M} (h : cLaw C) {r : Nat} (hr : r < 4) : C.1 35 r = -1 ∨ ∃ z, z ≤ 3 ∧ C.1 35 r = nI z := by
  rcases h r hr with q | ⟨z, q, -⟩
  · exact Or.inl q
  · exact Or.inr ⟨z, q.2.2.2, q.2.1⟩
theorem wJ_2 {M : wm_M} {k j : Nat} {x y : Int64} : wJ (wJ M k j x) k j y = wJ M k j y := by
  unfold wJ; rw [wJa_s, wJa_wJa]; congr 1; funext i
  by_cases q : i = j
  · subst q; simp [vp_updL]
  · simp [vp_updL, q]
/-- the reference with another sum -/
def hsM (M : wm_M) (x : Int64) : wm_M := wJ M 96 40 x
theorem hsM_1 {M : wm_M} {x : Int64} : (hsM M x).1 = M.1 := rfl
theorem hsM_40 {M : wm_M} {x : Int64} : (hsM M x).2.1 96 40 = x := wJ_at
theorem hsM_2 {M : wm_M} {x y : Int64} : wJ (hsM M x) 96 40 y = hsM M y := wJ_2
theorem hsM_stn {C M : wm_M} {x : Int64} {w h : Nat} (q : xStn C M w h) : xStn C (hsM M x) w h := q
theorem neg_ge {z : Nat} (i : Nat) (hi : i < 2 ^ 31) : ¬ nI i < (-1 : Int32) := fun q => by
  rw [Int32.lt_iff_toInt_lt, nI_toInt hi] at q
  have : (-1 : Int32).toInt = -1 := by decide
  omega
theorem clampI (x : Int32) : (x.toNatClampNeg : Int) = max x.toInt 0 := by unfold Int32.toNatClampNeg; omega
theorem lt_of_not {x : Int32} {i : Nat} (hi : i < 2 ^ 31) (h : ¬ x ≤ nI i) : i < x.toNatClampNeg := by
  rw [Int32.le_iff_toInt_le, nI_toInt hi] at h
  have e := clampI x
  omega
theorem ge_of {x : Int32} {i : Nat} (h : x ≤ nI i) (hi : i < 2 ^ 31) : ¬ i < x.toNatClampNeg := by
  rw [Int32.le_iff_toInt_le, nI_toInt hi] at h
  have e : (x.toNatClampNeg : Int) = max x.toInt 0 := by unfold Int32.toNatClampNeg; omega
  omega
theorem lawW {C M : wm_M} {l i : Nat} (hX : xLaw C M) (hC : cLaw C) (hl : l < 4) (hi : i < (C.1 35 l).toNatClampNeg) : M.1 110 (3 * l + i) = C.1 (31 + l) i := by
  rcases hC l hl with q | ⟨z, q, -⟩
  · rw [q, m1_clamp] at hi; omega
  · rw [q.2.1, nI_clamp (by have := q.2.2.2; omega)] at hi
    exact hX.2 l hl z q.2.2.2 q.2.1 i hi
def engI (C : wm_M) (e j : Nat) : Int32 := if j = 0 then C.1 55 e else if j = 1 then C.1 56 e else if j = 2 then C.1 57 e else C.1 (60 + e) (j - 3)
theorem engI_l (C : wm_M) (e j : Nat) : (engI C e j).toInt64 = (fun j => if j = 0 then (C.1 55 e).toInt64 else if j = 1 then (C.1 56 e).toInt64 else if j = 2 then (C.1 57 e).toInt64 else (C.1 (60 + e) (j - 3)).toInt64) j := by
  show _ = (if j = 0 then _ else _)
  unfold engI; split
  · rfl
  · split
    · rfl
    · split <;> rfl
theorem engI_eq {C M : wm_M} {e j n : Nat} (g0 : M.1 119 (6 * e) = C.1 55 e) (g1 : M.1 119 (6 * e + 1) = C.1 56 e) (g2 : M.1 119 (6 * e + 2) = C.1 57 e) (g3 : ∀ i, i < n → M.1 119 (6 * e + 3 + i) = C.1 (60 + e) i) (hj : j < 3 + n) : M.1 119 (6 * e + j) = engI C e j := by
  unfold engI
  by_cases h0 : j = 0
  · subst h0; rw [if_pos rfl]; exact g0
  · rw [if_neg h0]
    by_cases h1 : j = 1
    · subst h1; rw [if_pos rfl]; exact g1
    · rw [if_neg h1]
      by_cases h2 : j = 2
      · subst h2; rw [if_pos rfl]; exact g2
      · rw [if_neg h2, ← g3 (j - 3) (by omega), show 6 * e + 3 + (j - 3) = 6 * e + j by omega]
theorem hFold_app (h : Int64) (f : Nat → Int64) (a : Nat) : ∀ b, hFold h f (a + b) = hFold (hFold h f a) (fun j => f (a + j)) b
  | 0 => rfl
  | b + 1 => by rw [← Nat.add_assoc]; simp only [hFold]; rw [hFold_app h f a b]
theorem hFold_cong {h : Int64} {f g : Nat → Int64} : ∀ {n : Nat}, (∀ i, i < n → f i = g i) → hFold h f n = hFold h g n
  | 0, _ => rfl
  | n + 1, e => by simp only [hFold]; rw [hFold_cong (fun i hi => e i (by omega)), e n (by omega)]
theorem eg_fold {C : wm_M} {w h e y st en : Nat} {h0 : Int64} (hw : w ≤ 3) (hh : h ≤ 2) (hre : RE C w h e y st en) : hFold (eFold C h0 e) (fun j => if j = 0 then (C.1 55 e).toInt64 else if j = 1 then (C.1 56 e).toInt64 else if j = 2 then (C.1 57 e).toInt64 else (C.1 (60 + e) (j - 3)).toInt64) (3 + sLen w h st) = eFold C h0 (e + 1) := by
  rw [hFold_app]
  simp only [eFold]
  rw [hre.2.2.2.2.2.2, nI_clamp (by have : sLen w h st ≤ max w h := (by unfold sLen; split <;> omega); have := hre.2.2.2.1; omega)]
  exact hFold_cong (fun j _ => by show (if 3 + j = 0 then _ else _) = _; rw [if_neg (by omega), if_neg (by omega), if_neg (by omega), show 3 + j - 3 = j by omega])
/-- what is kept, as the reference has it -/
def keI (C : wm_M) (k : Nat) : Int32 := if C.1 95 k = -1 then -1 else C.1 94 k
theorem keI_112 {C M : wm_M} {k : Nat} (h : xKep C M) (hk : k < 3) : M.1 112 k = keI C k := by
  unfold keI
  rcases h k hk with ⟨a, b⟩ | ⟨a, b, -⟩
  · rw [if_pos a]; exact b
  · rw [if_neg a]; exact b
theorem keI_113 {C M : wm_M} {k : Nat} (h : xKep C M) (hk : k < 3) (h9 : ¬ C.1 95 k = -1) : M.1 113 k = C.1 95 k := by
  rcases h k hk with ⟨a, -⟩ | ⟨-, -, c⟩
  · exact absurd a h9
  · exact c
theorem keI_neg {C : wm_M} {n k : Nat} (hn : n ≤ 6) (h : cKep C n) (hk : k < 3) (q : keI C k < 0) : C.1 95 k = -1 := by
  rcases h k hk with a | ⟨y, s, hy, e1, e2, hs⟩
  · exact a
  · exfalso
    unfold keI at q
    rw [e1, if_neg (nI_nem1 (by omega)), e2] at q
    exact nI_pos (by have := hs.1; have := p4_le hn; omega) q
theorem keI_pos {C : wm_M} {n k : Nat} (h : cKep C n) (hk : k < 3) (q : ¬ keI C k < 0) : ¬ C.1 95 k = -1 := fun e => q (by unfold keI; rw [if_pos e]; decide)
theorem keI_n {C : wm_M} {h0 : Int64} {k : Nat} (h : C.1 95 k = -1) : 31 * dgK C h0 k + (keI C k).toInt64 = dgK C h0 (k + 1) := by
  simp only [dgK]; unfold keI; rw [if_pos h, if_pos h, h]
theorem keI_s {C : wm_M} {h0 : Int64} {k : Nat} (h : ¬ C.1 95 k = -1) : 31 * (31 * dgK C h0 k + (keI C k).toInt64) + (C.1 95 k).toInt64 = dgK C h0 (k + 1) := by
  simp only [dgK]; unfold keI; rw [if_neg h, if_neg h]
theorem mixE {M : wm_M} {x v : Int64} : 31 * (hsM M x).2.1 96 40 + v = 31 * x + v := by rw [hsM_40]
theorem rowW {C M : wm_M} {r i : Nat} (hX : xRow C M) (hC : cRow C) (hr : r < 6) (hi : i < (C.1 9 r).toNatClampNeg) : M.1 99 (60 * r + i) = C.1 (3 + r) i := by
  rcases hC r hr with q | ⟨z, hz, q⟩
  · rw [q, m1_clamp] at hi; omega
  · rw [q, nI_clamp (by omega)] at hi; exact hX.2 r hr z hz q i hi
theorem txtW {C M : wm_M} {r i : Nat} (hX : xTxt C M) (hC : cTxt C) (hr : r < 4) (hi : i < (C.1 16 r).toNatClampNeg) : ∃ z, z ≤ 80 ∧ M.1 101 r = nI z ∧ i < z ∧ M.1 102 (80 * r + i) = C.1 (12 + r) i := by
  rcases hC r hr with q | ⟨z, hz, q⟩
  · rw [q, m1_clamp] at hi; omega
  · rw [q, nI_clamp (by omega)] at hi; exact ⟨z, hz, (hX.1 r hr).trans q, hi, hX.2 r hr z hz q i hi⟩
