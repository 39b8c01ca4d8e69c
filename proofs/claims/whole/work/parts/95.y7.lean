/-! ===== the reference looks through all states ===== -/
def stdN (C : wm_M) (w h t : Nat) : Nat := wBits (fun l => decide (2 ≤ lvQ C w h t l)) 4
theorem stdN_lt (C : wm_M) (w h t : Nat) : stdN C w h t < 16 := wBits_lt _ 4
def gS (C : wm_M) (w h set t : Nat) : Bool := decide (stdN C w h t &&& set = set)
def FrS (M N : wm_M) : Prop := (∀ c, c ≠ 111 → c ≠ 115 → N.1 c = M.1 c) ∧ N.2 = M.2
def FrN (M N : wm_M) : Prop := (∀ c, c ≠ 111 → c ≠ 114 → c ≠ 115 → N.1 c = M.1 c) ∧ N.2 = M.2
theorem FrS.rf (M : wm_M) : FrS M M := ⟨fun _ _ _ => rfl, rfl⟩
theorem FrS.tr {M N O : wm_M} (h : FrS M N) (k : FrS N O) : FrS M O := ⟨fun c a b => (k.1 c a b).trans (h.1 c a b), k.2.trans h.2⟩
theorem FrN.tr {M N O : wm_M} (h : FrN M N) (k : FrN N O) : FrN M O := ⟨fun c a b d => (k.1 c a b d).trans (h.1 c a b d), k.2.trans h.2⟩
theorem FrN.rf (M : wm_M) : FrN M M := ⟨fun _ _ _ _ => rfl, rfl⟩
theorem FrS.n {M N : wm_M} (h : FrS M N) : FrN M N := ⟨fun c a _ b => h.1 c a b, h.2⟩
theorem FrS.l {M : wm_M} {f : Nat → Int32} : FrS M (wIa M 111 f) := ⟨fun c h _ => wIa_n h, rfl⟩
theorem FrS.s {M : wm_M} {f : Nat → Int32} : FrS M (wIa M 115 f) := ⟨fun c _ h => wIa_n h, rfl⟩
theorem FrN.t {M : wm_M} {f : Nat → Int32} : FrN M (wIa M 114 f) := ⟨fun c _ h _ => wIa_n h, rfl⟩
theorem FrN.stn {C M N : wm_M} {w h : Nat} (k : FrN M N) (q : xStn C M w h) : xStn C N w h := q.fr (by rw [k.1 96 (by decide) (by decide) (by decide)]) (by rw [k.1 96 (by decide) (by decide) (by decide)]) (by rw [k.1 96 (by decide) (by decide) (by decide)]) (k.1 103 (by decide) (by decide) (by decide)) (k.1 104 (by decide) (by decide) (by decide)) (k.1 105 (by decide) (by decide) (by decide)) (k.1 106 (by decide) (by decide) (by decide)) rfl rfl rfl rfl
theorem FrN.law {C M N : wm_M} (k : FrN M N) (q : xLaw C M) : xLaw C N := q.fr (k.1 109 (by decide) (by decide) (by decide)) (k.1 110 (by decide) (by decide) (by decide)) rfl (fun _ _ => rfl)
theorem FrN.x {M N : wm_M} (k : FrN M N) : FrX M N := ⟨fun c hc => k.1 c (fun e => by rw [e] at hc; cases hc) (fun e => by rw [e] at hc; cases hc) (fun e => by rw [e] at hc; cases hc), fun j _ => by rw [k.1 96 (by decide) (by decide) (by decide)], fun c _ => by rw [k.2], fun j _ => by rw [k.2], fun d _ => by rw [k.2], fun q => by unfold xDyn; rw [k.2]; exact q⟩
theorem tsI_s {kd : Nat → Int32} {s t k : Nat} (hk : k < 6) : tsI kd s t (k + 1) = if tsI kd s t k < 0 ∨ (if hqA kd t k then nI (tbt kd s t k) else -1) < 0 then -1 else tsI kd s t k + (if hqA kd t k then nI (tbt kd s t k) else -1) := by
  have h1 : wSum (tbt kd s t) k ≤ k * 3 := wSum_le (fun k _ => tbt_3)
  have h2 : tbt kd s t k ≤ 3 := tbt_3
  have n1 : ¬ nI (wSum (tbt kd s t) k) < 0 := nI_pos (by omega)
  have n2 : ¬ nI (tbt kd s t k) < 0 := nI_pos (by omega)
  unfold tsI
  rw [wAll_s]
  simp only [wSum]
  cases wAll (hqA kd t) k <;> cases hqA kd t k <;> simp [n1, n2, nI_add]
theorem tT_had {kd : Nat → Int32} {n s t : Nat} (h : prodB (hadN kd n) t = true) : tT kd n s t = nI (dst kd n s t) := if_pos h
theorem dst18 {kd : Nat → Int32} {n s t : Nat} (hn : n ≤ 6) : dst kd n s t ≤ 18 := Nat.le_trans (wSum_le (c := 3) (fun k _ => tbt_3)) (by omega)
def gd (C : wm_M) (w h set t : Nat) : Bool := prodB (hadN (C.1 18) (w * h)) t && gS C w h set t
/-- the best of the states below i -/
def BsP (C : wm_M) (w h s set i : Nat) (b : Int32) : Prop := (b = -9 ∧ ∀ t, t < i → gd C w h set t = false) ∨ ∃ u, u < i ∧ b = nI u ∧ gd C w h set u = true ∧ (∀ t, t < i → gd C w h set t = true → dst (C.1 18) (w * h) s u ≤ dst (C.1 18) (w * h) s t) ∧ ∀ t, t < u → gd C w h set t = true → dst (C.1 18) (w * h) s u < dst (C.1 18) (w * h) s t
theorem bs_keep {C : wm_M} {w h s set i : Nat} {b : Int32} (q : BsP C w h s set i b) (hg : gd C w h set i = false) : BsP C w h s set (i + 1) b := by
  rcases q with ⟨e, q⟩ | ⟨u, hu, e, g, q1, q2⟩
  · left; exact ⟨e, fun t ht => by rcases Nat.lt_or_eq_of_le (Nat.le_of_lt_succ ht) with a | a; (exact q t a); (subst a; exact hg)⟩
  · right; exact ⟨u, by omega, e, g, fun t ht h2 => by rcases Nat.lt_or_eq_of_le (Nat.le_of_lt_succ ht) with a | a; (exact q1 t a h2); (subst a; rw [hg] at h2; cases h2), q2⟩
theorem bs_first {C : wm_M} {w h s set i : Nat} {b : Int32} (q : BsP C w h s set i b) (hg : gd C w h set i = true) (hb : b = -9) (hi : i < 4096) : BsP C w h s set (i + 1) (nI i) := by
  rcases q with ⟨e, q⟩ | ⟨u, hu, e, g, q1, q2⟩
  · right; exact ⟨i, by omega, rfl, hg, fun t ht h2 => by rcases Nat.lt_or_eq_of_le (Nat.le_of_lt_succ ht) with a | a; (rw [q t a] at h2; cases h2); (subst a; exact Nat.le_refl _), fun t ht h2 => by rw [q t ht] at h2; cases h2⟩
  · rw [e] at hb; exact absurd hb (nI_ne9 (by omega))
theorem bs_less {C : wm_M} {w h s set i u : Nat} {b : Int32} (q : BsP C w h s set i b) (hg : gd C w h set i = true) (hb : b = nI u) (hu6 : u < 4096) (hi : i < 4096) (hl : dst (C.1 18) (w * h) s i < dst (C.1 18) (w * h) s u) : BsP C w h s set (i + 1) (nI i) := by
  rcases q with ⟨e, q⟩ | ⟨v, hv, e, g, q1, q2⟩
  · rw [e] at hb; exact absurd hb.symm (nI_ne9 (by omega))
  · have : v = u := (nI_eq (by omega) (by omega)).mp (e.symm.trans hb)
    subst this
    right; exact ⟨i, by omega, rfl, hg, fun t ht h2 => by rcases Nat.lt_or_eq_of_le (Nat.le_of_lt_succ ht) with a | a; (have := q1 t a h2; omega); (subst a; exact Nat.le_refl _), fun t ht h2 => by have := q1 t ht h2; omega⟩
theorem bs_ge {C : wm_M} {w h s set i u : Nat} {b : Int32} (q : BsP C w h s set i b) (hb : b = nI u) (hu6 : u < 4096) (hi : i < 4096) (hl : dst (C.1 18) (w * h) s u ≤ dst (C.1 18) (w * h) s i) : BsP C w h s set (i + 1) b := by
  rcases q with ⟨e, q⟩ | ⟨v, hv, e, g, q1, q2⟩
  · rw [e] at hb; exact absurd hb.symm (nI_ne9 (by omega))
  · have : v = u := (nI_eq (by omega) (by omega)).mp (e.symm.trans hb)
    subst this
    right; exact ⟨v, by omega, e, g, fun t ht h2 => by rcases Nat.lt_or_eq_of_le (Nat.le_of_lt_succ ht) with a | a; (exact q1 t a h2); (subst a; exact hl), q2⟩
theorem gd_iff {C : wm_M} {w h set t : Nat} (ht : t < 4 ^ (w * h)) : gd C w h set t = true ↔ hadS C (w * h) t ∧ gS C w h set t = true := by
  unfold gd hadS; rw [Bool.and_eq_true]; exact ⟨fun q => ⟨⟨ht, q.1⟩, q.2⟩, fun q => ⟨q.1.2, q.2⟩⟩
/-- no state that can be had has the set; or t is the nearest, the least of them -/
def NrNo (C : wm_M) (w h set : Nat) : Prop := ∀ t, hadS C (w * h) t → gS C w h set t = false
def NrIs (C : wm_M) (w h s set t : Nat) : Prop := hadS C (w * h) t ∧ gS C w h set t = true ∧ (∀ t2, hadS C (w * h) t2 → gS C w h set t2 = true → dst (C.1 18) (w * h) s t ≤ dst (C.1 18) (w * h) s t2) ∧ ∀ t2, t2 < t → hadS C (w * h) t2 → gS C w h set t2 = true → dst (C.1 18) (w * h) s t < dst (C.1 18) (w * h) s t2
theorem nr_no {C : wm_M} {w h s set : Nat} {b : Int32} (q : BsP C w h s set (4 ^ (w * h)) b) (hn : NrNo C w h set) : b = -9 := by
  rcases q with ⟨e, -⟩ | ⟨u, hu, e, g, -⟩
  · exact e
  · have := (gd_iff hu).mp g; rw [hn u this.1] at this; cases this.2
theorem nr_is {C : wm_M} {w h s set t : Nat} {b : Int32} (q : BsP C w h s set (4 ^ (w * h)) b) (hn : NrIs C w h s set t) : b = nI t := by
  obtain ⟨n1, n2, n3, n4⟩ := hn
  rcases q with ⟨e, q⟩ | ⟨u, hu, e, g, q1, q2⟩
  · have := (gd_iff (set := set) n1.1).mpr ⟨n1, n2⟩; rw [q t n1.1] at this; cases this
  · have hg := (gd_iff hu).mp g
    rcases Nat.lt_trichotomy u t with a | a | a
    · have h1 := n4 u a hg.1 hg.2
      have h2 := q1 t n1.1 ((gd_iff n1.1).mpr ⟨n1, n2⟩); omega
    · rw [e, a]
    · have h1 := q2 t a ((gd_iff n1.1).mpr ⟨n1, n2⟩)
      have h2 := n3 u hg.1 hg.2; omega
