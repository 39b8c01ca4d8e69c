/-! ===== what stands in a state, in both ===== -/
theorem wordLv_2 (kd wd sd ot : Nat → Int32) (k side : Nat) (x : Int32) : 2 ≤ wordLv kd wd sd ot k side x ↔ sShow kd wd k side = x := by
  unfold wordLv
  by_cases h : sShow kd wd k side = x
  · rw [if_pos h]; constructor
    · intro _; exact h
    · intro _; split <;> omega
  · rw [if_neg h]; constructor
    · intro q; split at q <;> omega
    · intro q; exact absurd q h
theorem lev_any {w h : Nat} {kd wd sd ot lw : Nat → Int32} {z s : Nat} : decide (2 ≤ levB w h kd wd sd ot lw z s) = any3 w h kd wd lw z s := by
  have key : 2 ≤ levB w h kd wd sd ot lw z s ↔ any3 w h kd wd lw z s = true := by
    unfold levB any3
    rw [maxF_ge (by decide), wAny_iff]
    constructor
    · rintro ⟨st, hst, q⟩
      rw [maxF_ge (by decide)] at q
      obtain ⟨e, he, q⟩ := q
      unfold levIn at q
      rw [maxF_ge (by decide)] at q
      obtain ⟨b, hb, q⟩ := q
      unfold levAt at q
      rw [minF_ge (by decide)] at q
      exact ⟨st, hst, wAny_iff.mpr ⟨e, he, wAny_iff.mpr ⟨b, hb, wAll_t (fun i hi => decide_eq_true ((wordLv_2 _ _ _ _ _ _ _).mp (q i hi)))⟩⟩⟩
    · rintro ⟨st, hst, q⟩
      obtain ⟨e, he, q⟩ := wAny_iff.mp q
      obtain ⟨b, hb, q⟩ := wAny_iff.mp q
      refine ⟨st, hst, (maxF_ge (by decide)).mpr ⟨e, he, ?_⟩⟩
      unfold levIn
      refine (maxF_ge (by decide)).mpr ⟨b, hb, ?_⟩
      unfold levAt
      exact (minF_ge (by decide)).mpr (fun i hi => (wordLv_2 _ _ _ _ _ _ _).mpr (of_decide_eq_true (wAll_iff.mp q i hi)))
  cases q : any3 w h kd wd lw z s with
  | true => exact decide_eq_true (key.mpr q)
  | false => exact decide_eq_false (fun c => by rw [key.mp c] at q; cases q)
theorem stL_lv {C : wm_M} {w h l s : Nat} (hs : prodB (hadN (C.1 18) (w * h)) s = true) : stL C w h l s = decide (2 ≤ lvQ C w h s l) := by
  unfold stL lvQ
  by_cases q : C.1 35 l = -1
  · rw [if_pos q, decide_eq_true q]; rfl
  · rw [if_neg q, decide_eq_false q]
    unfold stS lvl; rw [hs, lev_any]; rfl
theorem sb_lv {C : wm_M} {w h rn s yr l t : Nat} (ci : CI C w h rn s yr) (hl : l < 4) (ht : hadS C (w * h) t) : sb (C.2.1 (38 + 2 * l + 1)) t = decide (2 ≤ lvQ C w h t l) := by
  have hn6 := TW_n ci.1.1
  rw [ci.2.2.2.2.2.2.2.2.2.1 l hl t (Nat.lt_of_lt_of_le ht.1 (p4_le hn6)), stL_lv ht.2]
theorem std_sb {C : wm_M} {w h rn s yr t : Nat} (ci : CI C w h rn s yr) (ht : hadS C (w * h) t) : stdN C w h t = wBits (fun l => sb (C.2.1 (38 + 2 * l + 1)) t) 4 := wBits_cong (fun l hl => (sb_lv ci hl ht).symm)
theorem and_set {p : Nat → Bool} {set : Nat} (h : set < 16) : (wBits p 4 &&& set = set) ↔ ∀ l, l < 4 → set.testBit l = true → p l = true := by
  constructor
  · intro e l hl hb
    have := congrArg (fun q => q.testBit l) e
    simp only [Nat.testBit_and, wBits_bit, hb, decide_eq_true hl, Bool.true_and, Bool.and_true] at this
    exact this
  · intro e
    refine Nat.eq_of_testBit_eq (fun i => ?_)
    rw [Nat.testBit_and, wBits_bit]
    cases hb : set.testBit i with
    | false => rw [Bool.and_false]
    | true =>
      have hi : i < 4 := by
        rcases Nat.lt_or_ge i 4 with q | q
        · exact q
        · have h2 : set < 2 ^ i := Nat.lt_of_lt_of_le h (Nat.pow_le_pow_right (n := 2) (by decide) q)
          rw [Nat.testBit_lt_two_pow h2] at hb; cases hb
      rw [decide_eq_true hi, e i hi hb]; rfl
theorem goal_gS {C : wm_M} {w h rn s yr set t : Nat} (ci : CI C w h rn s yr) (hset : set < 16) (ht : hadS C (w * h) t) : goalB C w h set t = gS C w h set t := by
  unfold goalB gS
  rw [ht.2, Bool.true_and, std_sb ci ht]
  have hk := and_set (p := fun l => sb (C.2.1 (38 + 2 * l + 1)) t) hset
  cases q : wAll (fun l => !set.testBit l || sb (C.2.1 (38 + 2 * l + 1)) t) 4 with
  | true =>
    refine (decide_eq_true (hk.mpr (fun l hl hb => ?_))).symm
    have := wAll_iff.mp q l hl
    simpa [hb] using this
  | false =>
    refine (decide_eq_false (fun e => ?_)).symm
    have : wAll (fun l => !set.testBit l || sb (C.2.1 (38 + 2 * l + 1)) t) 4 = true := wAll_t (fun l hl => by
      cases hb : set.testBit l with
      | false => rfl
      | true => simpa [hb] using hk.mp e l hl hb)
    rw [this] at q; cases q
theorem nr_cases {C : wm_M} {w h rn s yr : Nat} (ci : CI C w h rn s yr) {set : Nat} (hset : set < 16) : (yrs C w h s set = -9 ∧ NrNo C w h set) ∨ ∃ n t, n ≤ 18 ∧ yrs C w h s set = nI n ∧ rch C w h s set n = nI t ∧ NrIs C w h s set t ∧ dst (C.1 18) (w * h) s t = n := by
  have hn6 := TW_n ci.1.1
  have hs := ci.2.2.1.2.2.2
  have h4 := p4_le hn6
  rcases yrs_cases set hn6 hs with ⟨a, b⟩ | ⟨n, t, hn, a, b, c, d, e, f, g⟩
  · left; exact ⟨a, fun t ht => by rw [← goal_gS ci hset ht]; exact b t (Nat.lt_of_lt_of_le ht.1 h4)⟩
  · right; exact ⟨n, t, hn, a, b, ⟨c, by rw [← goal_gS ci hset c]; exact d, fun t2 h1 h2 => by rw [e]; exact f t2 h1 (by rw [goal_gS ci hset h1]; exact h2), fun t2 h0 h1 h2 => by rw [e]; exact g t2 h0 h1 (by rw [goal_gS ci hset h1]; exact h2)⟩, e⟩
theorem gCnt_eq {C : wm_M} {w h rn s yr set : Nat} (ci : CI C w h rn s yr) (hset : set < 16) : gCnt C w h set = wCnt (gd C w h set) (4 ^ (w * h)) := by
  have hn6 := TW_n ci.1.1
  have h4 := p4_le hn6
  have e1 : wCnt (goalB C w h set) (4 ^ (w * h) + (4096 - 4 ^ (w * h))) = wCnt (gd C w h set) (4 ^ (w * h)) := by
    rw [wCnt_app]
    have z0 : wCnt (fun j => goalB C w h set (4 ^ (w * h) + j)) (4096 - 4 ^ (w * h)) = 0 := wCnt_zero (fun j hj => by
      refine Bool.eq_false_iff.mpr (fun q => ?_)
      have := (goal_had hn6 (by omega) q).1; omega)
    rw [z0, Nat.add_zero]
    refine wCnt_cong (fun t ht => ?_)
    unfold gd
    cases q : prodB (hadN (C.1 18) (w * h)) t with
    | false => unfold goalB; rw [q]; rfl
    | true => rw [goal_gS ci hset ⟨ht, q⟩]; rfl
  rw [show 4 ^ (w * h) + (4096 - 4 ^ (w * h)) = 4096 by omega] at e1
  exact e1
theorem gd_0 {C : wm_M} {w h t : Nat} : gd C w h 0 t = prodB (hadN (C.1 18) (w * h)) t := by
  unfold gd gS; rw [Nat.and_zero, decide_eq_true rfl, Bool.and_true]
/-- what the reference's calls need of both -/
theorem XR.stn {C N : wm_M} {w h rn s yr : Nat} (x : XR C N w h rn s yr) : xStn C N w h := x.2.2.2.1
theorem XR.now {C N : wm_M} {w h rn s yr : Nat} (x : XR C N w h rn s yr) : xNow N (w * h) s yr := x.2.2.2.2.1
theorem XR.law {C N : wm_M} {w h rn s yr : Nat} (x : XR C N w h rn s yr) : xLaw C N := x.2.2.2.2.2.1
theorem XR.kep {C N : wm_M} {w h rn s yr : Nat} (x : XR C N w h rn s yr) : xKep C N := x.2.2.2.2.2.2.1
theorem XR.eng {C N : wm_M} {w h rn s yr : Nat} (x : XR C N w h rn s yr) : xEng C N w h rn := x.2.2.2.2.2.2.2.1
theorem XR.dyn {C N : wm_M} {w h rn s yr : Nat} (x : XR C N w h rn s yr) : xDyn N := x.2.2.2.2.2.2.2.2
theorem CI.tw {C : wm_M} {w h rn s yr : Nat} (q : CI C w h rn s yr) : TW C w h := q.1.1
theorem CI.stn {C : wm_M} {w h rn s yr : Nat} (q : CI C w h rn s yr) : cStn C (w * h) := q.2.1
theorem CI.hd {C : wm_M} {w h rn s yr : Nat} (q : CI C w h rn s yr) : hadS C (w * h) s := q.2.2.1.2.2.2
theorem CI.rw {C : wm_M} {w h rn s yr : Nat} (q : CI C w h rn s yr) : cRow C := q.2.2.2.1
theorem CI.tx {C : wm_M} {w h rn s yr : Nat} (q : CI C w h rn s yr) : cTxt C := q.2.2.2.2.1
theorem CI.lw {C : wm_M} {w h rn s yr : Nat} (q : CI C w h rn s yr) : cLaw C := q.2.2.2.2.2.1
theorem CI.kp {C : wm_M} {w h rn s yr : Nat} (q : CI C w h rn s yr) : cKep C (w * h) := q.2.2.2.2.2.2.1
theorem CI.ro {C : wm_M} {w h rn s yr : Nat} (q : CI C w h rn s yr) : RecOk C w h rn := q.2.2.2.2.2.2.2.1
theorem CI.yr {C : wm_M} {w h rn s yr : Nat} (q : CI C w h rn s yr) : yr ≤ 999 := q.2.2.1.2.2.1
theorem CI.n6 {C : wm_M} {w h rn s yr : Nat} (q : CI C w h rn s yr) : w * h ≤ 6 := TW_n q.1.1
/-- a law is missing, or has its words in both -/
theorem law_c {C N : wm_M} {w h rn s yr : Nat} (ci : CI C w h rn s yr) {l : Nat} (hl : l < 4) : C.1 35 l = -1 ∨ ∃ z, LZ C l z ∧ ¬ C.1 35 l = -1 := by
  rcases ci.lw l hl with q | ⟨z, q, -⟩
  · exact Or.inl q
  · exact Or.inr ⟨z, q, by rw [q.2.1]; exact nI_nem1 (by have := q.2.2.2; omega)⟩
