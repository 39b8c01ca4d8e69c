/-! ===== the reference: the line, together, mend, till ===== -/
def lnM (M : wm_M) (f : Nat → Int32) (i : Nat) : wm_M := wI (wIa M 116 (wTo f (M.1 116) i)) 96 33 (nI i)
theorem lnM_0 {M : wm_M} {f : Nat → Int32} : wI M 96 33 0 = lnM M f 0 := by unfold lnM; rw [wTo_0, wIa_self]; rfl
theorem lnM_s {M : wm_M} {f : Nat → Int32} {i : Nat} {x : Int32} (h : x = f i) : wI (wI (lnM M f i) 116 i x) 96 33 (nI (i + 1)) = lnM M f (i + 1) := by
  unfold lnM
  have e1 : wI (wI (wIa M 116 (wTo f (M.1 116) i)) 96 33 (nI i)) 116 i x = wI (wIa M 116 (wTo f (M.1 116) (i + 1))) 96 33 (nI i) := by
    unfold wI
    rw [wIa_comm (show (96 : Nat) ≠ 116 by decide), wIa_n (show (116 : Nat) ≠ 96 by decide), wIa_s, wIa_wIa, wTo_s h, wIa_n (show (96 : Nat) ≠ 116 by decide), wIa_n (show (96 : Nat) ≠ 116 by decide)]
  rw [e1]
  unfold wI; rw [wIa_s, wIa_wIa]
  congr 1
  funext j
  by_cases q : j = 33
  · subst q; rw [upd_s, upd_s]
  · rw [upd_n q, upd_n q, upd_n q]
theorem lnM_c {M : wm_M} {f : Nat → Int32} {i c : Nat} (h1 : c ≠ 96) (h2 : c ≠ 116) : (lnM M f i).1 c = M.1 c := by unfold lnM; rw [wI_c h1, wIa_n h2]
theorem lnM_p {M : wm_M} {f : Nat → Int32} {i j : Nat} (h : j ≠ 33) : (lnM M f i).1 96 j = M.1 96 j := by unfold lnM; rw [wI_ne (fun e => h e.2), wIa_n (by decide)]
theorem lnM_33 {M : wm_M} {f : Nat → Int32} {i : Nat} : (lnM M f i).1 96 33 = nI i := wI_at
theorem lnM_ln {M : wm_M} {f : Nat → Int32} {i j : Nat} (h : j < i) : (lnM M f i).1 116 j = f j := by unfold lnM; rw [wI_c (by decide), wIa_s, wTo_in h]
theorem lnM_x {M : wm_M} {f : Nat → Int32} {i : Nat} : FrX M (lnM M f i) := (FrX.I rfl (by decide)).tr (FrX.P rfl)
theorem lnM_stn {C M : wm_M} {f : Nat → Int32} {i w h : Nat} (q : xStn C M w h) : xStn C (lnM M f i) w h := q.fr (lnM_p (by decide)) (lnM_p (by decide)) (lnM_p (by decide)) (lnM_c (by decide) (by decide)) (lnM_c (by decide) (by decide)) (lnM_c (by decide) (by decide)) (lnM_c (by decide) (by decide)) rfl rfl rfl rfl
theorem lnM_law {C M : wm_M} {f : Nat → Int32} {i : Nat} (q : xLaw C M) : xLaw C (lnM M f i) := q.fr (lnM_c (by decide) (by decide)) (lnM_c (by decide) (by decide)) rfl (fun _ _ => rfl)
theorem dst_24 {kd : Nat → Int32} {n s t k : Nat} (hk : k ≤ n) (hd : dst kd n s t ≤ 18) : wSum (tbt kd s t) k ≤ 18 := Nat.le_trans (wSum_mono hk) hd
/-- lost -/
def alX (C : wm_M) (w h : Nat) (f : Nat → Int32) (s i l : Nat) : Bool := wAll (fun j => decide (2 ≤ lvQ C w h (rwS C f s j) l)) (i + 1)
theorem alX_s (C : wm_M) (w h : Nat) (f : Nat → Int32) (s i l : Nat) : alX C w h f s (i + 1) l = (alX C w h f s i l && decide (2 ≤ lvQ C w h (rwS C f s (i + 1)) l)) := wAll_s _ _
theorem ln_nf {M : wm_M} {m s t : Nat} (hm : m ≤ 6) (hs : hadS M m s) (ht : hadS M m t) {i : Nat} (hi : i < dst (M.1 18) m s t) : sFix (M.1 18 (lnK (tbt (M.1 18) s t) m i)) = false := by
  have h := ln_mt hm hs ht hi
  have hk := lnK_lt (tb := tbt (M.1 18) s t) (m := m) (i := i) hi
  unfold mtB lnF at h
  rw [decide_eq_false (nI_ne9 (by omega)), Bool.false_or, Bool.and_eq_true, nI_clamp (by omega)] at h
  simpa using h.2
/-- together -/
def bt1 (a b : Nat) : Prop := pcN a < pcN b ∨ (pcN a = pcN b ∧ b ≤ a)
theorem bt1_rf (a : Nat) : bt1 a a := Or.inr ⟨rfl, Nat.le_refl _⟩
theorem bt1_tr {a b c : Nat} (h : bt1 a b) (k : bt1 b c) : bt1 a c := by unfold bt1 at *; omega
def hadX (C : wm_M) (w h t : Nat) : Nat := if prodB (hadN (C.1 18) (w * h)) t then stdN C w h t else 0
def BtP (C : wm_M) (w h i b : Nat) : Prop := b < 16 ∧ (b = 0 ∨ ∃ t, t < i ∧ hadX C w h t = b) ∧ ∀ t, t < i → bt1 (hadX C w h t) b
theorem hadX_lt (C : wm_M) (w h t : Nat) : hadX C w h t < 16 := by unfold hadX; split; (exact stdN_lt _ _ _ _); omega
theorem bt_new {C : wm_M} {w h i b : Nat} (q : BtP C w h i b) (hb : bt1 b (hadX C w h i)) : BtP C w h (i + 1) (hadX C w h i) :=
  ⟨hadX_lt _ _ _ _, Or.inr ⟨i, by omega, rfl⟩, fun t ht => by rcases Nat.lt_or_eq_of_le (Nat.le_of_lt_succ ht) with a | a; (exact bt1_tr (q.2.2 t a) hb); (subst a; exact bt1_rf _)⟩
theorem bt_old {C : wm_M} {w h i b : Nat} (q : BtP C w h i b) (hb : bt1 (hadX C w h i) b) : BtP C w h (i + 1) b :=
  ⟨q.1, q.2.1.elim Or.inl (fun ⟨t, h1, h2⟩ => Or.inr ⟨t, by omega, h2⟩), fun t ht => by rcases Nat.lt_or_eq_of_le (Nat.le_of_lt_succ ht) with a | a; (exact q.2.2 t a); (subst a; exact hb)⟩
/-- mend: C with another word at place p -/
def mdC (C : wm_M) (p x : Nat) : wm_M := wI C 19 p (nI x)
theorem mdC_c {C : wm_M} {p x c : Nat} (h : c ≠ 19) : (mdC C p x).1 c = C.1 c := wI_c h
theorem mdC_stn {C M : wm_M} {w h p x : Nat} (hX : xStn C M w h) (hp : p < 4 * (w * h)) : xStn (mdC C p x) (wI M 104 p (nI x)) w h := by
  obtain ⟨x10, x11, x12, x103, x104, x105, x106⟩ := hX
  refine ⟨by rw [wI_c (by decide)]; exact x10, by rw [wI_c (by decide)]; exact x11, by rw [wI_c (by decide)]; exact x12, fun k hk => by rw [wI_c (by decide), mdC_c (by decide)]; exact x103 k hk, fun j hj => ?_, fun k hk => by rw [wI_c (by decide), mdC_c (by decide)]; exact x105 k hk, fun k hk q => ?_⟩
  · unfold mdC
    by_cases q : j = p
    · subst q; rw [wI_at, wI_at]
    · rw [wI_ne (fun e => q e.2), wI_ne (fun e => q e.2)]; exact x104 j hj
  · rw [mdC_c (by decide)] at q
    rw [wI_c (by decide), mdC_c (by decide)]; exact x106 k hk q
theorem mdC_law {C M : wm_M} {p x y : Nat} (hL : xLaw C M) : xLaw (mdC C p x) (wI M 104 p (nI y)) := hL.fr (wI_c (by decide)) (wI_c (by decide)) (mdC_c (by decide)) (fun l hl => mdC_c (by omega))
theorem mdC_cl {C : wm_M} {p x : Nat} (h : cLaw C) : cLaw (mdC C p x) := h.fr (mdC_c (by decide)) (fun l hl => mdC_c (by omega))
theorem mdC_cs {C : wm_M} {n p x : Nat} (h : cStn C n) (hx : x < 8) (hm : mdM C (p / 4) (p % 4) = true) : cStn (mdC C p x) n := by
  unfold mdM at hm
  rw [Bool.and_eq_true] at hm
  have h20 : ¬ C.1 20 (p / 4) = nI (p % 4) := fun e => by rw [decide_eq_true e] at hm; exact absurd hm.2 (by decide)
  refine ⟨fun k hk => by rw [mdC_c (by decide)]; exact h.1 k hk, fun k hk => by rw [mdC_c (by decide), mdC_c (by decide)]; exact h.2.1 k hk, fun k hk i hi => ?_⟩
  rw [mdC_c (show 18 ≠ 19 by decide), mdC_c (show 20 ≠ 19 by decide)]
  by_cases q : 4 * k + i = p
  · right
    have e1 : p / 4 = k := by omega
    have e2 : p % 4 = i := by omega
    rw [e1, e2] at h20
    exact ⟨fun c => h20 c.2, x, hx, by unfold mdC; rw [q, wI_at]⟩
  · have e : (mdC C p x).1 19 (4 * k + i) = C.1 19 (4 * k + i) := wI_ne (fun e => q e.2)
    rw [e]; exact h.2.2 k hk i hi
theorem mdC_had {C : wm_M} {n p x s : Nat} (h : hadS C n s) : hadS (mdC C p x) n s := h.fr (mdC_c (by decide))
theorem mdC_tw {C : wm_M} {w h p x : Nat} (q : TW C w h) : TW (mdC C p x) w h := q.fr (mdC_c (by decide))
/-- what mend looks for: the first place and word by which the law can be had -/
def mxB (C : wm_M) (w h l p x : Nat) : Bool := mdM C (p / 4) (p % 4) && !decide (∀ t, t < 4 ^ (w * h) → gd (mdC C p x) w h (2 ^ l) t = false)
