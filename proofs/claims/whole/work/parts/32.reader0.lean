/-! ===== a town's text, read: ch p is the sign at p, 0 behind the end; sz is its size ===== -/
/-- the first place from p on that is no blank, or the end -/
def skpF (ch : Nat → Int32) : Nat → Nat → Nat
  | 0, p => p
  | n + 1, p => if ch p = 32 then skpF ch n (p + 1) else p
def skp (ch : Nat → Int32) (sz p : Nat) : Nat := skpF ch (sz - p) p
theorem skpF_le (ch : Nat → Int32) : ∀ n p, p ≤ skpF ch n p ∧ skpF ch n p ≤ p + n
  | 0, p => ⟨Nat.le_refl _, Nat.le_refl _⟩
  | n + 1, p => by
    simp only [skpF]
    split
    · have := skpF_le ch n (p + 1); omega
    · omega
theorem skp_le {ch : Nat → Int32} {sz p : Nat} (h : p ≤ sz) : p ≤ skp ch sz p ∧ skp ch sz p ≤ sz := by
  have := skpF_le ch (sz - p) p
  unfold skp; omega
theorem skp_end {ch : Nat → Int32} {sz p : Nat} (h : sz ≤ p) : skp ch sz p = p := by
  unfold skp; rw [show sz - p = 0 by omega]; rfl
theorem skp_b {ch : Nat → Int32} {sz p : Nat} (h : p < sz) (hb : ch p = 32) : skp ch sz p = skp ch sz (p + 1) := by
  unfold skp; rw [show sz - p = (sz - (p + 1)) + 1 by omega]; simp [skpF, hb]
theorem skp_n {ch : Nat → Int32} {sz p : Nat} (hb : ¬ ch p = 32) : skp ch sz p = p := by
  unfold skp
  cases h : sz - p with
  | zero => rfl
  | succ n => simp [skpF, hb]
def kindC (c : Int32) : Int32 := if c = 99 then 4 else if c = 102 then 2 else if c = 104 then 3 else if c = 115 then 0 else if c = 117 then 5 else if c = 120 then 1 else -9
def inC (c a b : Int32) : Bool := !decide (c < a) && decide (c ≤ b)
/-- how many of the n signs from p on are words, till one isn't -/
def wdN (ch : Nat → Int32) : Nat → Nat → Nat
  | 0, _ => 0
  | n + 1, p => if inC (ch p) 97 104 then wdN ch n (p + 1) + 1 else 0
/-- behind the words of a stone of kind kc, from p on -/
def sdEnd (ch : Nat → Int32) (kc : Int32) (p : Nat) : Nat × Bool :=
  if isOfB kc 1 = false then (p, true)
  else if inC (ch p) 48 51 = false then (p, false)
  else if kc = 4 then (p + 1, true)
  else if inC (ch (p + 1)) 97 104 = false then (p + 1, false)
  else (p + 2, true)
/-- where a stone's item from p on ends, or can't go on -/
def stEnd (ch : Nat → Int32) (p : Nat) : Nat × Bool :=
  if kindC (ch p) = -9 then (p, false)
  else if wdN ch 4 (p + 1) < 4 then (p + 1 + wdN ch 4 (p + 1), false)
  else sdEnd ch (kindC (ch p)) (p + 5)
/-- j stones more, from p on: the fault, or NONE -/
def prest (ch : Nat → Int32) (sz : Nat) : Nat → Nat → Int32
  | 0, p => if sz ≤ skp ch sz p then -9 else nI (skp ch sz p)
  | j + 1, p => if (stEnd ch (skp ch sz p)).2 then prest ch sz j (stEnd ch (skp ch sz p)).1 else nI (stEnd ch (skp ch sz p)).1
/-- where the k-th stone begins, if the first one is looked for from p on -/
def stAt (ch : Nat → Int32) (sz : Nat) : Nat → Nat → Nat
  | 0, p => skp ch sz p
  | k + 1, p => stAt ch sz k (stEnd ch (skp ch sz p)).1
def gW (ch : Nat → Int32) (sz : Nat) : Nat := (ch (skp ch sz 0 + 1) - 49).toNatClampNeg + 1
def gH (ch : Nat → Int32) (sz : Nat) : Nat := (ch (skp ch sz 0 + 2) - 49).toNatClampNeg + 1
/-- the fault of a text -/
def tFault (ch : Nat → Int32) (sz : Nat) : Int32 :=
  if inC (ch (skp ch sz 0)) 103 103 = false then nI (skp ch sz 0)
  else if inC (ch (skp ch sz 0 + 1)) 49 51 = false then nI (skp ch sz 0 + 1)
  else if inC (ch (skp ch sz 0 + 2)) 49 50 = false then nI (skp ch sz 0 + 2)
  else prest ch sz (gW ch sz * gH ch sz) (skp ch sz 0 + 3)
/-- the sign at p of text tx in the memory -/
def chF (M : wm_M) (tx sz : Nat) : Nat → Int32 := fun p => if p < sz then M.1 (12 + tx) p else 0
theorem chF_out {M : wm_M} {tx sz p : Nat} (h : sz ≤ p) : chF M tx sz p = 0 := if_neg (by omega)
theorem inC_lt {c a b : Int32} (h : c < a) : inC c a b = false := by simp [inC, h]
theorem inC_gt {c a b : Int32} (h : ¬ c ≤ b) : inC c a b = false := by simp [inC, h]
theorem inC_t {c a b : Int32} (h : ¬ c < a) (h2 : c ≤ b) : inC c a b = true := by simp [inC, h, h2]
theorem inC_lenof {M : wm_M} {tx sz p : Nat} {a b : Int32} (ha : 0 < a) (h : inC (chF M tx sz p) a b = true) : p < sz := by
  rcases Nat.lt_or_ge p sz with q | q
  · exact q
  · rw [chF_out q] at h
    simp [inC] at h
    exact absurd ha (by rw [Int32.not_lt]; exact h.1)
/-- only the reader's own cells have changed -/
def Sc (M N : wm_M) : Prop := (∀ c, c < 22 ∨ 27 < c → N.1 c = M.1 c) ∧ N.2 = M.2
theorem Sc.rf (M : wm_M) : Sc M M := ⟨fun _ _ => rfl, rfl⟩
theorem Sc.tr {M N O : wm_M} (h : Sc M N) (h2 : Sc N O) : Sc M O := ⟨fun c hc => (h2.1 c hc).trans (h.1 c hc), h2.2.trans h.2⟩
theorem Sc.I {M : wm_M} {k : Nat} {f : Nat → Int32} (h : 22 ≤ k ∧ k ≤ 27) : Sc M (wIa M k f) := ⟨fun c hc => wIa_n (by omega), rfl⟩
theorem Sc.ch {M N : wm_M} (h : Sc M N) {tx sz : Nat} (ht : tx < 4) : chF N tx sz = chF M tx sz := by
  unfold chF; rw [h.1 (12 + tx) (by omega)]
theorem wI_2 {M : wm_M} {k j j2 : Nat} {x y : Int32} : wI (wI M k j x) k j y = wI M k j y := by
  unfold wI; rw [wIa_s, wIa_wIa]; congr 1; funext q; by_cases h : q = j <;> simp [upd, h]
theorem wI_self {M : wm_M} {k j : Nat} {x : Int32} (h : M.1 k j = x) : wI M k j x = M := by
  subst h; unfold wI; rw [upd_self, wIa_self]
/-- the reader reads text tx of size sz at place p -/
def RdAt (M : wm_M) (tx sz p : Nat) : Prop := tx < 4 ∧ M.1 27 2 = nI tx ∧ M.1 27 3 = nI p ∧ M.1 16 tx = nI sz ∧ sz ≤ 80 ∧ p < 200
