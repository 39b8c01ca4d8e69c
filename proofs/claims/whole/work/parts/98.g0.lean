/-! mend: the least years of a law by its words, and by its states -/
theorem tq_3 : ∀ a, a < 4 → ∀ b, b < 4 → (5 : Nat).testBit a = true → (5 : Nat).testBit b = true → (a + ((b + 4 - a) % 4) / 2 * 2) % 4 = b := by decide
theorem tbt_q {kd : Nat → Int32} {n s t k : Nat} (hn : n ≤ 6) (hs : hdB kd n s) (ht : hdB kd n t) (hk : k < n) : (sQ s k + tbt kd s t k * sStep (kd k)) % 4 = sQ t k := by
  have a := (hdB_iff hn hs.1).mp hs.2 k hk
  have b := (hdB_iff hn ht.1).mp ht.2 k hk
  have h1 := sQ_lt s k
  have h2 := sQ_lt t k
  rcases st_cases (kd k) with q | q | q
  · rw [hq_0 q.1 h1 a, hq_0 q.1 h2 b, q.2]; omega
  · unfold tbt; rw [if_pos q.2.2, q.2.1]; exact tq_3 _ h1 _ h2 (hq_1 q.1 a) (hq_1 q.1 b)
  · unfold tbt; rw [if_neg q.2.2, q.2.1]; omega
theorem hqN_j {x : Int32} {a : Nat} (ha : a < 4) (h : (hqN x).testBit a = true) : ∀ j, (hqN x).testBit ((a + j * sStep x) % 4) = true
  | 0 => by rw [show (a + 0 * sStep x) % 4 = a by omega]; exact h
  | j + 1 => by
    have := hqN_step (Nat.mod_lt _ (by decide)) (hqN_j ha h j)
    rw [show ((a + j * sStep x) % 4 + sStep x) % 4 = (a + (j + 1) * sStep x) % 4 by rw [Nat.succ_mul]; omega] at this
    exact this
theorem inj_sum {at_ : Nat → Nat} {m : Nat} : ∀ {z : Nat} (f : Nat → Nat), (∀ i, i < z → at_ i < m) → (∀ i j, i < z → j < z → at_ i = at_ j → i = j) → wSum (fun i => f (at_ i)) z ≤ wSum f m
  | 0, f, _, _ => Nat.zero_le _
  | z + 1, f, h1, h2 => by
    simp only [wSum]
    have e1 := inj_sum (at_ := at_) (m := m) (z := z) (fun k => if k = at_ z then 0 else f k) (fun i hi => h1 i (by omega)) (fun i j hi hj => h2 i j (by omega) (by omega))
    rw [wSum_cong (g := fun i => f (at_ i)) (fun i hi => if_neg (fun c => by have := h2 i z (by omega) (by omega) c; omega))] at e1
    have e2 := wSum_one (f := fun k => if k = at_ z then 0 else f k) (g := f) (h1 z (by omega)) (fun i _ hne => if_neg hne)
    simp only [if_pos] at e2
    omega
theorem turn_all {kd : Nat → Int32} {m s : Nat} (hm : m ≤ 6) (hs : hdB kd m s) {at_ j : Nat → Nat} : ∀ z : Nat, (∀ i, i < z → at_ i < m ∧ j i ≤ sMost (kd (at_ i))) → (∀ a b, a < z → b < z → at_ a = at_ b → a = b) → ∃ t, hdB kd m t ∧ (∀ i, i < z → sQ t (at_ i) = (sQ s (at_ i) + j i * sStep (kd (at_ i))) % 4) ∧ (∀ k, k < m → (∀ i, i < z → at_ i ≠ k) → sQ t k = sQ s k) ∧ dst kd m s t = wSum j z
  | 0, _, _ => ⟨s, hs, fun i hi => absurd hi (Nat.not_lt_zero _), fun _ _ _ => rfl, dst_self⟩
  | z + 1, h1, h2 => by
    obtain ⟨t, ht, e1, e2, e3⟩ := turn_all hm hs z (fun i hi => h1 i (by omega)) (fun a b ha hb => h2 a b (by omega) (by omega))
    have hz := h1 z (by omega)
    have hk6 : at_ z < 6 := by omega
    have hq : sQ t (at_ z) = sQ s (at_ z) := e2 _ hz.1 (fun i hi c => by have := h2 i z (by omega) (by omega) c; omega)
    have hlt := sQ_lt s (at_ z)
    have hmv : hdB kd m (sMv t (at_ z) (j z * sStep (kd (at_ z)))) := by
      have hl := sMv_lt (m := j z * sStep (kd (at_ z))) ht.1 hz.1
      refine ⟨hl, (hdB_iff hm hl).mpr (fun k hk => ?_)⟩
      have hb := (hdB_iff hm ht.1).mp ht.2 k hk
      by_cases q : k = at_ z
      · subst q; rw [sQ_mv hk6]; exact hqN_j (sQ_lt _ _) hb _
      · rw [sQ_mvn hk6 (by omega) q]; exact hb
    refine ⟨sMv t (at_ z) (j z * sStep (kd (at_ z))), hmv, fun i hi => ?_, fun k hk hne => ?_, ?_⟩
    · by_cases q : i = z
      · subst q; rw [sQ_mv hk6, hq]
      · have hne : at_ i ≠ at_ z := fun c => q (h2 i z (by omega) (by omega) c)
        rw [sQ_mvn hk6 (by have := (h1 i hi).1; omega) hne]; exact e1 i (by omega)
    · rw [sQ_mvn hk6 (by omega) (fun c => hne z (by omega) c.symm)]; exact e2 k hk (fun i hi => hne i (by omega))
    · have w1 := wSum_one (f := tbt kd s (sMv t (at_ z) (j z * sStep (kd (at_ z))))) (g := tbt kd s t) hz.1 (fun i hi hne => tbt_n hk6 (by omega) hne)
      have g1 : tbt kd s t (at_ z) = 0 := by
        unfold tbt; rw [hq, show (sQ s (at_ z) + 4 - sQ s (at_ z)) % 4 = 0 by omega]; split <;> rfl
      have g2 : tbt kd s (sMv t (at_ z) (j z * sStep (kd (at_ z)))) (at_ z) = j z := by
        unfold tbt; rw [sQ_mv hk6, hq]
        rcases st_cases (kd (at_ z)) with q | q | q
        · rw [q.2]; split <;> omega
        · rw [if_pos q.2.2, q.2.1]; omega
        · rw [if_neg q.2.2, q.2.1]; omega
      unfold dst at e3 ⊢
      simp only [wSum]
      omega
/-- the least of what was seen -/
def LmP (a : Int32) (Q : Nat → Prop) : Prop := (a = -9 ∧ ∀ v, ¬ Q v) ∨ ∃ v, v ≤ 9 ∧ a = nI v ∧ Q v ∧ ∀ u, Q u → v ≤ u
theorem LmP.cg {a : Int32} {Q R : Nat → Prop} (h : LmP a Q) (e : ∀ v, Q v ↔ R v) : LmP a R := by
  rcases h with ⟨a, b⟩ | ⟨v, a, b, c, d⟩
  · exact Or.inl ⟨a, fun v q => b v ((e v).mpr q)⟩
  · exact Or.inr ⟨v, a, b, (e v).mp c, fun u q => d u ((e u).mpr q)⟩
theorem LmP.min {a x : Int32} {Q : Nat → Prop} (h : LmP a Q) (hx : x = -9 ∨ ∃ u, u ≤ 9 ∧ x = nI u) : LmP (lmin a x) (fun v => Q v ∨ (v ≤ 9 ∧ x = nI v)) := by
  unfold lmin
  rcases hx with e | ⟨u, hu, e⟩
  · rw [if_pos e]
    exact h.cg (fun v => ⟨Or.inl, fun q => q.resolve_right (fun c => nI_ne9 (by omega) (c.2.symm.trans e))⟩)
  · rw [if_neg (fun c => nI_ne9 (p := u) (by omega) (e.symm.trans c))]
    have hxu : ∀ {v}, v ≤ 9 → x = nI v → v = u := fun {v} hv ev => (nI_eq (by omega) (by omega)).mp (ev.symm.trans e)
    rcases h with ⟨ha, b⟩ | ⟨v, hv, ha, c, d⟩
    · rw [if_pos (Or.inl ha)]
      exact Or.inr ⟨u, hu, e, Or.inr ⟨hu, e⟩, fun k q => by rcases q with q | q; (exact absurd q (b k)); (have := hxu q.1 q.2; omega)⟩
    · by_cases q : u < v
      · rw [if_pos (Or.inr (by rw [e, ha]; exact (nI_ltI (by omega) (by omega)).mpr q))]
        exact Or.inr ⟨u, hu, e, Or.inr ⟨hu, e⟩, fun k r => by rcases r with r | r; (have := d k r; omega); (have := hxu r.1 r.2; omega)⟩
      · rw [if_neg (fun c2 => by rcases c2 with c2 | c2; (exact nI_ne9 (by omega) (ha.symm.trans c2)); (rw [e, ha] at c2; exact q ((nI_ltI (by omega) (by omega)).mp c2)))]
        exact Or.inr ⟨v, hv, ha, Or.inl c, fun k r => by rcases r with r | r; (exact d k r); (have := hxu r.1 r.2; omega)⟩
theorem LmP.fm {f : Nat → Int32} {a : Int32} {Q : Nat → Prop} (h : LmP a Q) (hf : ∀ b, f b = -9 ∨ ∃ u, u ≤ 9 ∧ f b = nI u) : ∀ n, LmP (fmin f a n) (fun v => Q v ∨ ∃ b, b < n ∧ v ≤ 9 ∧ f b = nI v)
  | 0 => h.cg (fun v => ⟨Or.inl, fun q => q.resolve_right (fun ⟨b, hb, _⟩ => absurd hb (Nat.not_lt_zero _))⟩)
  | n + 1 => ((LmP.fm h hf n).min (hf n)).cg (fun v => by
      constructor
      · rintro ((q | ⟨b, hb, q⟩) | q)
        · exact Or.inl q
        · exact Or.inr ⟨b, by omega, q⟩
        · exact Or.inr ⟨n, by omega, q⟩
      · rintro (q | ⟨b, hb, q⟩)
        · exact Or.inl (Or.inl q)
        · by_cases e : b = n
          · subst e; exact Or.inr q
          · exact Or.inl (Or.inr ⟨b, by omega, q⟩))
theorem wSum_3 {f : Nat → Nat} {z : Nat} (hz : z ≤ 3) (h : ∀ i, i < z → f i ≤ 3) : wSum f z ≤ 9 := by have := wSum_le h; omega
theorem tAt_c {w h : Nat} {kd wd lw : Nat → Int32} {z s st e : Nat} (hz : z ≤ 3) (b : Nat) : tAt w h kd wd lw z s st e b = -9 ∨ ∃ u, u ≤ 9 ∧ tAt w h kd wd lw z s st e b = nI u := by
  unfold tAt tSum
  split
  · refine Or.inr ⟨_, wSum_3 hz (fun i hi => ?_), rfl⟩
    rcases tTo_cases kd wd (sAt w h st e (b + i)) (sSide h s (sAt w h st e (b + i)) st e) (lw i) with q | ⟨t, ht, q⟩
    · show (tTo kd wd (sAt w h st e (b + i)) (sSide h s (sAt w h st e (b + i)) st e) (lw i)).toNatClampNeg ≤ 3
      rw [q]; decide
    · show (tTo kd wd (sAt w h st e (b + i)) (sSide h s (sAt w h st e (b + i)) st e) (lw i)).toNatClampNeg ≤ 3
      rw [q, nI_clamp (by omega)]; exact ht
  · exact Or.inl rfl
def LyQ (w h : Nat) (kd wd lw : Nat → Int32) (z s k v : Nat) : Prop := ∃ st, st < k ∧ ∃ e, e < 2 ∧ ∃ b, b < sLen w h st + 1 - z ∧ v ≤ 9 ∧ tAt w h kd wd lw z s st e b = nI v
theorem ly_m {w h : Nat} {kd wd lw : Nat → Int32} {z s : Nat} (hz : z ≤ 3) : ∀ k, LmP (lyT w h kd wd lw z s k) (LyQ w h kd wd lw z s k)
  | 0 => Or.inl ⟨rfl, fun v ⟨st, hst, _⟩ => absurd hst (Nat.not_lt_zero _)⟩
  | k + 1 => by
    have h0 := ly_m (w := w) (h := h) (kd := kd) (wd := wd) (lw := lw) (s := s) hz k
    have h1 := (h0.fm (f := tAt w h kd wd lw z s k 0) (tAt_c hz) (sLen w h k + 1 - z)).fm (f := tAt w h kd wd lw z s k 1) (tAt_c hz) (sLen w h k + 1 - z)
    refine h1.cg (fun v => ?_)
    constructor
    · rintro ((⟨st, hst, q⟩ | ⟨b, hb, q⟩) | ⟨b, hb, q⟩)
      · exact ⟨st, by omega, q⟩
      · exact ⟨k, by omega, 0, by decide, b, hb, q⟩
      · exact ⟨k, by omega, 1, by decide, b, hb, q⟩
    · rintro ⟨st, hst, e, he, b, hb, q⟩
      by_cases c : st = k
      · subst c
        have : e = 0 ∨ e = 1 := by omega
        rcases this with r | r <;> subst r
        · exact Or.inl (Or.inr ⟨b, hb, q⟩)
        · exact Or.inr ⟨b, hb, q⟩
      · exact Or.inl (Or.inl ⟨st, by omega, e, he, b, hb, q⟩)
theorem sAt_inj {w h st e i j : Nat} (hw : 1 ≤ w) (hi : i < sLen w h st) (hj : j < sLen w h st) (q : sAt w h st e i = sAt w h st e j) : i = j := by
  unfold sLen at hi hj
  unfold sAt at q
  by_cases h1 : st < h
  · rw [if_pos h1] at hi hj q
    rw [if_pos h1] at q
    split at q <;> omega
  · rw [if_neg h1] at hi hj q
    rw [if_neg h1] at q
    split at q
    · have : i * w = j * w := by omega
      exact Nat.eq_of_mul_eq_mul_right (by omega) this
    · have : (h - 1 - i) * w = (h - 1 - j) * w := by omega
      have := Nat.eq_of_mul_eq_mul_right (by omega) this
      omega
section LY
variable {w h : Nat} {kd wd lw : Nat → Int32} {z s : Nat}
theorem mt_lo (hn : w * h ≤ 6) (hw : 1 ≤ w) (hz : z ≤ 3) (hs : hdB kd (w * h) s) {t st e b : Nat} (ht : hdB kd (w * h) t) (hst : st < w + h) (hb : b < sLen w h st + 1 - z) (hm : matchB w h kd wd lw z t st e b = true) : ∃ v, v ≤ 9 ∧ tAt w h kd wd lw z s st e b = nI v ∧ v ≤ dst kd (w * h) s t := by
  have hat : ∀ i, i < z → sAt w h st e (b + i) < w * h := fun i hi => sAt_lt hst (by omega)
  have key : ∀ i, i < z → ∃ j, j ≤ 3 ∧ tTo kd wd (sAt w h st e (b + i)) (sSide h s (sAt w h st e (b + i)) st e) (lw i) = nI j ∧ j ≤ tbt kd s t (sAt w h st e (b + i)) := fun i hi => by
    have hm1 := of_decide_eq_true (wAll_iff.mp hm i hi)
    have hk := hat i hi
    have hq := tbt_q hn hs ht hk
    have hle := tbt_le hs ht hn hk
    have hP : (fun j => decide (sShow kd wd (sAt w h st e (b + i)) ((sSide h s (sAt w h st e (b + i)) st e + j * sStep (kd (sAt w h st e (b + i)))) % 4) = lw i)) (tbt kd s t (sAt w h st e (b + i))) = true := by
      refine decide_eq_true ?_
      rw [← hm1]; congr 1
      unfold sSide; rw [← hq]; omega
    unfold tTo
    rcases wFind_cases (fun j => decide (sShow kd wd (sAt w h st e (b + i)) ((sSide h s (sAt w h st e (b + i)) st e + j * sStep (kd (sAt w h st e (b + i)))) % 4) = lw i)) (sMost (kd (sAt w h st e (b + i))) + 1) with ⟨-, h1⟩ | ⟨j, hj, e1, h1, h2⟩
    · have := h1 (tbt kd s t (sAt w h st e (b + i))) (by omega)
      exact absurd (this.symm.trans hP) (by decide)
    · refine ⟨j, by have := sMost_le (kd (sAt w h st e (b + i))); omega, e1, ?_⟩
      rcases Nat.lt_or_ge (tbt kd s t (sAt w h st e (b + i))) j with q | q
      · exact absurd ((h2 _ q).symm.trans hP) (by decide)
      · exact q
  have hall : wAll (fun i => !decide (tTo kd wd (sAt w h st e (b + i)) (sSide h s (sAt w h st e (b + i)) st e) (lw i) = -9)) z = true := wAll_t (fun i hi => by
    obtain ⟨j, hj, e1, -⟩ := key i hi
    rw [e1, decide_eq_false (nI_ne9 (by omega))]; rfl)
  have hv : ∀ i, i < z → (tTo kd wd (sAt w h st e (b + i)) (sSide h s (sAt w h st e (b + i)) st e) (lw i)).toNatClampNeg ≤ tbt kd s t (sAt w h st e (b + i)) := fun i hi => by
    obtain ⟨j, hj, e1, e2⟩ := key i hi
    rw [e1, nI_clamp (by omega)]; exact e2
  refine ⟨_, wSum_3 hz (fun i hi => Nat.le_trans (hv i hi) tbt_3), by unfold tAt tSum; rw [if_pos hall], ?_⟩
  refine Nat.le_trans (wSum_le2 hv) ?_
  exact inj_sum (at_ := fun i => sAt w h st e (b + i)) (tbt kd s t) hat (fun i j hi hj q => by have := sAt_inj hw (by omega) (by omega) q; omega)
theorem mt_hi (hn : w * h ≤ 6) (hw : 1 ≤ w) (hs : hdB kd (w * h) s) {st e b v : Nat} (hv : v ≤ 9) (hst : st < w + h) (hb : b < sLen w h st + 1 - z) (ha : tAt w h kd wd lw z s st e b = nI v) (hz : z ≤ 3) : ∃ t, hdB kd (w * h) t ∧ matchB w h kd wd lw z t st e b = true ∧ dst kd (w * h) s t = v := by
  have hat : ∀ i, i < z → sAt w h st e (b + i) < w * h := fun i hi => sAt_lt hst (by omega)
  unfold tAt tSum at ha
  split at ha
  · rename_i hall
    have key : ∀ i, i < z → ∃ j, j ≤ sMost (kd (sAt w h st e (b + i))) ∧ tTo kd wd (sAt w h st e (b + i)) (sSide h s (sAt w h st e (b + i)) st e) (lw i) = nI j ∧ sShow kd wd (sAt w h st e (b + i)) ((sSide h s (sAt w h st e (b + i)) st e + j * sStep (kd (sAt w h st e (b + i)))) % 4) = lw i := fun i hi => by
      have h9 := wAll_iff.mp hall i hi
      unfold tTo at h9 ⊢
      rcases wFind_cases (fun j => decide (sShow kd wd (sAt w h st e (b + i)) ((sSide h s (sAt w h st e (b + i)) st e + j * sStep (kd (sAt w h st e (b + i)))) % 4) = lw i)) (sMost (kd (sAt w h st e (b + i))) + 1) with ⟨e1, -⟩ | ⟨j, hj, e1, h1, -⟩
      · rw [decide_eq_true e1] at h9; cases h9
      · exact ⟨j, by omega, e1, of_decide_eq_true h1⟩
    obtain ⟨t, ht, e1, -, e3⟩ := turn_all hn hs (at_ := fun i => sAt w h st e (b + i)) (j := fun i => (tTo kd wd (sAt w h st e (b + i)) (sSide h s (sAt w h st e (b + i)) st e) (lw i)).toNatClampNeg) z (fun i hi => ⟨hat i hi, by
      obtain ⟨j, hj, q, -⟩ := key i hi
      have := sMost_le (kd (sAt w h st e (b + i)))
      show (tTo kd wd (sAt w h st e (b + i)) (sSide h s (sAt w h st e (b + i)) st e) (lw i)).toNatClampNeg ≤ _
      rw [q, nI_clamp (by omega)]; exact hj⟩) (fun i j hi hj q => by have := sAt_inj hw (by omega) (by omega) q; omega)
    refine ⟨t, ht, wAll_t (fun i hi => decide_eq_true ?_), ?_⟩
    · obtain ⟨j, hj, q, r⟩ := key i hi
      have q2 := e1 i hi
      have q2 : sQ t (sAt w h st e (b + i)) = (sQ s (sAt w h st e (b + i)) + (tTo kd wd (sAt w h st e (b + i)) (sSide h s (sAt w h st e (b + i)) st e) (lw i)).toNatClampNeg * sStep (kd (sAt w h st e (b + i)))) % 4 := q2
      have := sMost_le (kd (sAt w h st e (b + i)))
      rw [q, nI_clamp (by omega)] at q2
      rw [← r]; congr 1
      unfold sSide; rw [q2]; omega
    · rw [e3]
      refine (nI_eq ?_ (by omega)).mp ha
      exact Nat.lt_of_le_of_lt (wSum_3 hz (fun i hi => by
        obtain ⟨j, hj, q, -⟩ := key i hi
        have := sMost_le (kd (sAt w h st e (b + i)))
        rw [q, nI_clamp (by omega)]; omega)) (by decide)
  · exact absurd ha.symm (nI_ne9 (by omega))
theorem any3_iff {t : Nat} : any3 w h kd wd lw z t = true ↔ ∃ st, st < w + h ∧ ∃ e, e < 2 ∧ ∃ b, b < sLen w h st + 1 - z ∧ matchB w h kd wd lw z t st e b = true := by
  unfold any3
  rw [wAny_iff]
  constructor
  · rintro ⟨st, hst, q⟩
    obtain ⟨e, he, q⟩ := wAny_iff.mp q
    obtain ⟨b, hb, q⟩ := wAny_iff.mp q
    exact ⟨st, hst, e, he, b, hb, q⟩
  · rintro ⟨st, hst, e, he, b, hb, q⟩
    exact ⟨st, hst, wAny_iff.mpr ⟨e, he, wAny_iff.mpr ⟨b, hb, q⟩⟩⟩
theorem ly_no (hn : w * h ≤ 6) (hw : 1 ≤ w) (hz : z ≤ 3) (hs : hdB kd (w * h) s) (hl : lyT w h kd wd lw z s (w + h) = -9) {t : Nat} (ht : hdB kd (w * h) t) : any3 w h kd wd lw z t = false := by
  refine Bool.eq_false_iff.mpr (fun c => ?_)
  obtain ⟨st, hst, e, he, b, hb, q⟩ := any3_iff.mp c
  obtain ⟨v, hv, e1, -⟩ := mt_lo hn hw hz hs ht hst hb q
  rcases ly_m (w := w) (h := h) (kd := kd) (wd := wd) (lw := lw) (s := s) hz (w + h) with ⟨-, r⟩ | ⟨v2, h2, e2, -⟩
  · exact r v ⟨st, hst, e, he, b, hb, hv, e1⟩
  · exact nI_ne9 (by omega) (e2.symm.trans hl)
theorem ly_is (hn : w * h ≤ 6) (hw : 1 ≤ w) (hz : z ≤ 3) (hs : hdB kd (w * h) s) (hl : ¬ lyT w h kd wd lw z s (w + h) = -9) : ∃ t, hdB kd (w * h) t ∧ any3 w h kd wd lw z t = true ∧ lyT w h kd wd lw z s (w + h) = nI (dst kd (w * h) s t) ∧ ∀ t2, hdB kd (w * h) t2 → any3 w h kd wd lw z t2 = true → dst kd (w * h) s t ≤ dst kd (w * h) s t2 := by
  rcases ly_m (w := w) (h := h) (kd := kd) (wd := wd) (lw := lw) (s := s) hz (w + h) with ⟨r, -⟩ | ⟨v, hv, e2, ⟨st, hst, e, he, b, hb, -, ha⟩, r⟩
  · exact absurd r hl
  · obtain ⟨t, ht, hm, hd⟩ := mt_hi hn hw hs hv hst hb ha hz
    refine ⟨t, ht, any3_iff.mpr ⟨st, hst, e, he, b, hb, hm⟩, by rw [hd]; exact e2, fun t2 ht2 h2 => ?_⟩
    obtain ⟨st2, hst2, e3, he2, b2, hb2, q⟩ := any3_iff.mp h2
    obtain ⟨v2, hv2, e1, hle⟩ := mt_lo hn hw hz hs ht2 hst2 hb2 q
    rw [hd]
    exact Nat.le_trans (r v2 ⟨st2, hst2, e3, he2, b2, hb2, hv2, e1⟩) hle
theorem any3_upd {t p x : Nat} (hx : ∀ i, i < z → ¬ lw i = nI x) (q : any3 w h kd (upd wd p (nI x)) lw z t = true) : any3 w h kd wd lw z t = true := by
  obtain ⟨st, hst, e, he, b, hb, q⟩ := any3_iff.mp q
  refine any3_iff.mpr ⟨st, hst, e, he, b, hb, wAll_t (fun i hi => decide_eq_true ?_)⟩
  have := of_decide_eq_true (wAll_iff.mp q i hi)
  unfold sShow at this ⊢
  split at this
  · rename_i c; rw [if_pos c]; exact this
  · rename_i c
    rw [if_neg c]
    rw [upd_if] at this
    split at this
    · exact absurd this.symm (hx i hi)
    · exact this
end LY
