/-! ===== the class's calls: what they come to ===== -/
theorem wIn_le {x : Int32} {m : Nat} (hm : m < 2 ^ 30) (h0 : ¬ x < 0) (h : x ≤ nI m) : wIn x (m + 1) = true := by
  obtain ⟨j, hj, rfl⟩ := nI_of h0
  have := (nI_leI hj (by omega)).mp h
  rw [wIn_nI hj]; exact decide_eq_true (by omega)
theorem wIn_lt {x : Int32} {m : Nat} (hm : m < 2 ^ 30) (h0 : ¬ x < 0) (h : x < nI m) : wIn x m = true := by
  obtain ⟨j, hj, rfl⟩ := nI_of h0
  have := (nI_ltI hj (by omega)).mp h
  rw [wIn_nI hj]; exact decide_eq_true (by omega)
def stTl (M : wm_M) (s k what : Nat) : Int32 := if what = 0 then M.1 18 k else if what = 1 then nI (sQ s k) else M.1 19 (4 * k + what - 2)
def tal (M : wm_M) (w h rn what : Nat) : Int32 := if what = 0 then nI (w * h) else if what = 1 then nI (w + h) else if what = 2 then nI (wCnt (fun r => !decide (M.1 35 r = -1)) 4) else if what = 3 then nI (wCnt (fun k => isOfB (M.1 18 k) 1) (w * h)) else if what = 4 then nI (wCnt (fun k => isOfB (M.1 18 k) 2) (w * h)) else if what = 5 then nI rn else if what = 6 then nI (wCnt (fun r => !decide (M.1 9 r = -1)) 6) else nI (wCnt (fun r => !decide (M.1 16 r = -1)) 4)
def hwB (f : Nat → Int32) (least : Int32) (z : Nat) : Bool := wAll (fun i => !decide (f i < least) && decide (f i < 8)) z
def mtB (M : wm_M) (n : Nat) (k : Int32) : Bool := decide (k = -9) || (wIn k n && !sFix (M.1 18 k.toNatClampNeg))
/-- the level of a law as it stands -/
def lvl (M : wm_M) (w h l s : Nat) : Nat := levB w h (M.1 18) (M.1 19) (M.1 20) (M.1 21) (M.1 (31 + l)) (M.1 35 l).toNatClampNeg s
def lvN (M : wm_M) (w h l s : Nat) : Nat := levN w h (M.1 18) (M.1 19) (M.1 20) (M.1 21) (M.1 (31 + l)) (M.1 35 l).toNatClampNeg s
def lvP (M : wm_M) (w h s l : Nat) : Bool := !decide (M.1 35 l = -1) && decide (1 ≤ lvl M w h l s)
/-- the state behind i of a row's turns -/
def rwS (M : wm_M) (f : Nat → Int32) (s : Nat) : Nat → Nat
  | 0 => s
  | i + 1 => if f i = -9 then rwS M f s i else sMv (rwS M f s i) (f i).toNatClampNeg (sStep (M.1 18 (f i).toNatClampNeg))
def wordR (M : wm_M) (w h s st e i : Nat) : Int32 := sShow (M.1 18) (M.1 19) (sAt w h st e i) (sSide h s (sAt w h st e i) st e)
theorem wTo_fillv {f g : Nat → Int32} {s : Nat} {v : Int32} : wTo g (wFill f 0 s v) s = wTo g f s := by
  funext j
  by_cases h : j < s
  · rw [wTo_in h, wTo_in h]
  · rw [wTo_out (by omega), wTo_out (by omega), wFill_out (Or.inr (by omega))]
def rch (M : wm_M) (w h s set n : Nat) : Int32 := wFind (fun t => blB (M.1 18) (w * h) s n t && goalB M w h set t) 4096
theorem EqR.fr {I J : List Nat} {M N : wm_M} (h : Fr I J M N) (hI : ∀ c, scB c = false → c ∉ I) (hJ : ∀ c, sjB c = false → c ∉ J) : EqR M N := ⟨fun c hc => h.1 c (hI c hc), fun c hc => h.2.1 c (hJ c hc), fun d _ => by rw [h.2.2], fun q => by unfold cDyn; rw [h.2.2]; exact q⟩
theorem scB_nin {c : Nat} (h : scB c = false) : c ≠ 22 ∧ c ≠ 23 ∧ c ≠ 24 ∧ c ≠ 25 ∧ c ≠ 26 ∧ c ≠ 27 ∧ c ≠ 28 ∧ c ≠ 37 ∧ c ≠ 46 ∧ c ≠ 53 ∧ c ≠ 69 ∧ c ≠ 70 ∧ c ≠ 71 := by unfold scB at h; simp at h; omega
theorem sjB_nin {c : Nat} (h : sjB c = false) : c ≠ 48 ∧ c ≠ 50 ∧ c ≠ 52 := by unfold sjB at h; simp at h; omega
theorem EqR.want {M N : wm_M} (h : Fr [46, 53] [48, 50, 52] M N) : EqR M N := EqR.fr h (fun c hc => nin2 (scB_nin hc).2.2.2.2.2.2.2.2.1 (scB_nin hc).2.2.2.2.2.2.2.2.2.1) (fun c hc => nin3 (sjB_nin hc).1 (sjB_nin hc).2.1 (sjB_nin hc).2.2)
theorem EqR.p {M N : wm_M} (h : FrP M N) : EqR M N := ⟨fun c hc => h.1 c (scB_nin hc).2.2.2.2.2.2.2.2.2.2.1, fun c hc => h.2.1 c (by unfold sjB at hc; simp at hc; omega), fun d _ => by rw [h.2.2], fun q => by unfold cDyn; rw [h.2.2]; exact q⟩
theorem EqR.w {M N : wm_M} (h : FrW M N) (hd : cDyn N) : EqR M N := ⟨fun c hc => h.1 c (scB_nin hc).2.2.2.2.2.2.2.2.2.2.2.1 (scB_nin hc).2.2.2.2.2.2.2.2.2.2.2.2, fun c _ => by rw [h.2.1], h.2.2, fun _ => hd⟩
/-- like memories stay alike under a store -/
theorem EqR.sIa {C N : wm_M} (e : EqR C N) {k : Nat} {f : Nat → Int32} : EqR (wIa C k f) (wIa N k f) := ⟨fun c hc => by
  by_cases q : c = k
  · subst q; rw [wIa_s, wIa_s]
  · rw [wIa_n q, wIa_n q]; exact e.1 c hc, e.2.1, e.2.2.1, e.2.2.2⟩
theorem EqR.sJa {C N : wm_M} (e : EqR C N) {k : Nat} {f : Nat → Int64} : EqR (wJa C k f) (wJa N k f) := ⟨e.1, fun c hc => by
  by_cases q : c = k
  · subst q; rw [wJa_s, wJa_s]
  · rw [wJa_n q, wJa_n q]; exact e.2.1 c hc, e.2.2.1, e.2.2.2⟩
theorem EqR.sI {C N : wm_M} (e : EqR C N) {k j : Nat} {x : Int32} (hk : scB k = false) : EqR (wI C k j x) (wI N k j x) := by
  unfold wI; rw [e.1 k hk]; exact e.sIa
theorem EqR.tell {C N : wm_M} (e : EqR C N) {x : Int32} : EqR (tTell C x) (tTell N x) := e.sI rfl
theorem EqR.note {C N : wm_M} (e : EqR C N) {f : Nat} : EqR (tNote C f) (tNote N f) := by
  unfold tNote; rw [e.1 93 rfl]; exact (e.sI rfl).sI rfl
theorem EqR.sJ {C N : wm_M} (e : EqR C N) {k j : Nat} {x : Int64} (hk : sjB k = false) : EqR (wJ C k j x) (wJ N k j x) := by
  unfold wJ; rw [e.2.1 k hk]; exact e.sJa
theorem EqR.frac {C N : wm_M} (e : EqR C N) {a b : Int64} : EqR (tFr2 C a b) (tFr2 N a b) := (e.sJ rfl).sJ rfl
theorem tFrac_2 (M : wm_M) (a b : Nat) : tFrac M a b = tFr2 M (lN (a / Nat.gcd a b)) (lN (b / Nat.gcd a b)) := rfl
/-- the town that a text tells, and all that begins anew with it -/
def TnQ (M : wm_M) (r z : Nat) (N : wm_M) : Prop := OnlyC M N ∧ (∀ c, scB c = false → c ≠ 0 → (c < 17 ∨ 21 < c) → c ≠ 54 → c ≠ 95 → N.1 c = M.1 c) ∧ N.1 0 12 = 0 ∧ N.1 0 13 = 0 ∧ N.1 54 0 = 0 ∧ (∀ k, k < 3 → N.1 95 k = -1) ∧ (∀ c, sjB c = false → (c < 38 ∨ 45 < c) → N.2.1 c = M.2.1 c) ∧ N.2.2 = M.2.2 ∧ gOk (chF M r z) z ∧ N.1 17 0 = nI (gW (chF M r z) z) ∧ N.1 17 1 = nI (gH (chF M r z) z) ∧ (∀ l, l < 4 → ∀ s, s < 4096 → sb (N.2.1 (38 + 2 * l + 1)) s = stL N (gW (chF M r z) z) (gH (chF M r z) z) l s) ∧
  ∀ k, k < gW (chF M r z) z * gH (chF M r z) z → (fun (ch : Nat → Int32) (p : Nat) => N.1 18 k = kindC (ch p) ∧ (∀ i, i < 4 → N.1 19 (4 * k + i) = if kindC (ch p) = 4 ∧ ch (p + 5) - 48 = nI i then -1 else ch (p + 1 + i) - 97) ∧ N.1 20 k = (if isOfB (kindC (ch p)) 1 then ch (p + 5) - 48 else -9) ∧ (kindC (ch p) = 1 → N.1 21 k = ch (p + 6) - 97)) (chF M r z) (stAt (chF M r z) z k (skp (chF M r z) z 0 + 3))
/-- the law l anew, of row r -/
def lwM (M : wm_M) (l r z : Nat) : wm_M := wIa (wI M 35 l (nI z)) (31 + l) (wTo (M.1 (3 + r)) (M.1 (31 + l)) z)
theorem sSeen_t {p : Nat → Bool} {wn : Nat → Nat} {i : Nat} (h : p i = true) : sSeen p wn (i + 1) = sSeen p wn i ||| 2 ^ wn i := if_pos h
theorem sSeen_f {p : Nat → Bool} {wn : Nat → Nat} {i : Nat} (h : p i = false) : sSeen p wn (i + 1) = sSeen p wn i := if_neg (by simp [h])
