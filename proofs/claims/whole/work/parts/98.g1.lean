section LY2
variable {w h : Nat} {kd wd lw : Nat → Int32} {z s : Nat}
theorem ly_no2 (hn : w * h ≤ 6) (hw : (w = 0 ∧ h = 0) ∨ (1 ≤ w ∧ 1 ≤ h)) (hz : z ≤ 3) (hs : hdB kd (w * h) s) (hl : lyT w h kd wd lw z s (w + h) = -9) {t : Nat} (ht : hdB kd (w * h) t) : any3 w h kd wd lw z t = false := by
  rcases hw with ⟨a, b⟩ | ⟨a, -⟩
  · subst a; subst b; rfl
  · exact ly_no hn a hz hs hl ht
theorem ly_is2 (hn : w * h ≤ 6) (hw : (w = 0 ∧ h = 0) ∨ (1 ≤ w ∧ 1 ≤ h)) (hz : z ≤ 3) (hs : hdB kd (w * h) s) (hl : ¬ lyT w h kd wd lw z s (w + h) = -9) : ∃ t, hdB kd (w * h) t ∧ any3 w h kd wd lw z t = true ∧ lyT w h kd wd lw z s (w + h) = nI (dst kd (w * h) s t) ∧ ∀ t2, hdB kd (w * h) t2 → any3 w h kd wd lw z t2 = true → dst kd (w * h) s t ≤ dst kd (w * h) s t2 := by
  rcases hw with ⟨a, b⟩ | ⟨a, -⟩
  · subst a; subst b; exact absurd rfl hl
  · exact ly_is hn a hz hs hl
end LY2
theorem and_pow {a l : Nat} : decide (a &&& 2 ^ l = 2 ^ l) = a.testBit l := by
  cases q : a.testBit l with
  | true =>
    refine decide_eq_true (Nat.eq_of_testBit_eq (fun i => ?_))
    rw [Nat.testBit_and, Nat.testBit_two_pow]
    by_cases e : l = i
    · subst e; rw [q]; simp
    · simp [e]
  | false =>
    refine decide_eq_false (fun e => ?_)
    have := congrArg (fun x => x.testBit l) e
    simp [Nat.testBit_and, q, Nat.testBit_two_pow] at this
theorem gS_l {C : wm_M} {w h l z t : Nat} (hL : LZ C l z) : gS C w h (2 ^ l) t = any3 w h (C.1 18) (C.1 19) (C.1 (31 + l)) z t := by
  unfold gS
  rw [and_pow]
  unfold stdN
  rw [wBits_bit, decide_eq_true hL.1, Bool.true_and]
  unfold lvQ lvl
  rw [if_neg (by rw [hL.2.1]; exact nI_nem1 (by have := hL.2.2.2; omega)), hL.2.1, nI_clamp (by have := hL.2.2.2; omega)]
  exact lev_any
theorem mdC_19 {C : wm_M} {p x : Nat} : (mdC C p x).1 19 = upd (C.1 19) p (nI x) := wIa_s
theorem mdC_lz {C : wm_M} {p x l z : Nat} (h : LZ C l z) : LZ (mdC C p x) l z := ⟨h.1, by rw [mdC_c (by decide)]; exact h.2.1, h.2.2⟩
section STEPS7
variable {G : wm_G} {M : wm_M} {w h rn s yr : Nat}
theorem md_no (ci : CI M w h rn s yr) {l z p x : Nat} (hL : LZ M l z) (hn : NrNo (mdC M p x) w h (2 ^ l)) : lyT w h (M.1 18) (upd (M.1 19) p (nI x)) (M.1 (31 + l)) z s (w + h) = -9 := by
  by_cases q : lyT w h (M.1 18) (upd (M.1 19) p (nI x)) (M.1 (31 + l)) z s (w + h) = -9
  · exact q
  · obtain ⟨t, ht, ha, -⟩ := ly_is2 ci.n6 ci.1.2 hL.2.2.2 ci.hd q
    have := hn t (mdC_had ht)
    have hl4 := hL.1
    rw [gS_l (mdC_lz hL), mdC_19, mdC_c (by decide), mdC_c (by omega), ha] at this
    cases this
theorem md_is (ci : CI M w h rn s yr) {l z p x t : Nat} (hL : LZ M l z) (hn : NrIs (mdC M p x) w h s (2 ^ l) t) : lyT w h (M.1 18) (upd (M.1 19) p (nI x)) (M.1 (31 + l)) z s (w + h) = nI (dst (M.1 18) (w * h) s t) := by
  obtain ⟨ht, hg, hm, -⟩ := hn
  have hl4 := hL.1
  have e18 : (mdC M p x).1 18 = M.1 18 := mdC_c (by decide)
  have eg : ∀ t, gS (mdC M p x) w h (2 ^ l) t = any3 w h (M.1 18) (upd (M.1 19) p (nI x)) (M.1 (31 + l)) z t := fun t => by
    rw [gS_l (mdC_lz hL), mdC_19, mdC_c (by decide), mdC_c (by omega)]
  have ht' : hdB (M.1 18) (w * h) t := by have := ht; unfold hadS at this; rw [e18] at this; exact this
  by_cases q : lyT w h (M.1 18) (upd (M.1 19) p (nI x)) (M.1 (31 + l)) z s (w + h) = -9
  · have := ly_no2 ci.n6 ci.1.2 hL.2.2.2 ci.hd q ht'
    rw [eg, this] at hg; cases hg
  · obtain ⟨u, hu, ha, e1, hle⟩ := ly_is2 ci.n6 ci.1.2 hL.2.2.2 ci.hd q
    have k1 := hle t ht' (by rw [← eg]; exact hg)
    have k2 := hm u (mdC_had hu) (by rw [eg]; exact ha)
    rw [e18] at k2
    rw [e1]; congr 1; omega
theorem md_wd (ci : CI M w h rn s yr) {l z p x t : Nat} (hL : LZ M l z) (h9 : lyT w h (M.1 18) (M.1 19) (M.1 (31 + l)) z s (w + h) = -9) (hn : NrIs (mdC M p x) w h s (2 ^ l) t) : mdP M w h l z s p x = true := by
  have hl4 := hL.1
  unfold mdP
  have hly := md_is ci hL hn
  have hd : dst (M.1 18) (w * h) s t ≤ 18 := by
    have e18 : (mdC M p x).1 18 = M.1 18 := mdC_c (by decide)
    have ht := hn.1
    unfold hadS at ht; rw [e18] at ht
    refine Nat.le_trans (dst_most ci.n6 ci.hd ht) ?_
    have := wSum_le (f := fun k => sMost (M.1 18 k)) (c := 3) (n := w * h) (fun i _ => sMost_le _)
    have := ci.n6; omega
  rw [Bool.and_eq_true]
  refine ⟨?_, by rw [hly, decide_eq_false (nI_ne9 (by omega))]; rfl⟩
  cases q : wAny (fun i => decide (M.1 (31 + l) i = nI x)) z with
  | true => rfl
  | false =>
    exfalso
    have hg := hn.2.1
    rw [gS_l (mdC_lz hL), mdC_19, mdC_c (by decide), mdC_c (by omega)] at hg
    have hg2 := any3_upd (fun i hi c => by
      have : wAny (fun i => decide (M.1 (31 + l) i = nI x)) z = true := wAny_iff.mpr ⟨i, hi, decide_eq_true c⟩
      rw [this] at q; cases q) hg
    have ht := hn.1
    unfold hadS at ht; rw [mdC_c (by decide)] at ht
    rw [ly_no2 ci.n6 ci.1.2 hL.2.2.2 ci.hd h9 ht] at hg2; cases hg2
theorem md_f (ci : CI M w h rn s yr) {l z p x : Nat} (hL : LZ M l z) (hn : NrNo (mdC M p x) w h (2 ^ l)) : mdP M w h l z s p x = false := by
  unfold mdP; rw [md_no ci hL hn, decide_eq_true rfl]; exact Bool.and_false _
theorem mdS_no (ci : CI M w h rn s yr) {l z : Nat} (hL : LZ M l z) (hq : ∀ p, p < 4 * (w * h) → mdM M (p / 4) (p % 4) = true → ∀ x, x < 8 → NrNo (mdC M p x) w h (2 ^ l)) : mdS M w h l z s = -9 := by
  refine wFind_none (fun p hp => ?_)
  have : mdW M w h l z s p = -9 := by
    unfold mdW
    cases q : mdM M (p / 4) (p % 4) with
    | false => exact if_neg (by decide)
    | true => rw [if_pos rfl]; exact wFind_none (fun x hx => md_f ci hL (hq p hp q x hx))
  rw [decide_eq_true this]; rfl
theorem mdS_is (ci : CI M w h rn s yr) {l z p x t : Nat} (hL : LZ M l z) (h9 : lyT w h (M.1 18) (M.1 19) (M.1 (31 + l)) z s (w + h) = -9) (hp : p < 4 * (w * h)) (hx : x < 8) (hm : mdM M (p / 4) (p % 4) = true) (h1 : ∀ p2, p2 < p → mdM M (p2 / 4) (p2 % 4) = true → ∀ x2, x2 < 8 → NrNo (mdC M p2 x2) w h (2 ^ l)) (h2 : ∀ x2, x2 < x → NrNo (mdC M p x2) w h (2 ^ l)) (hn : NrIs (mdC M p x) w h s (2 ^ l) t) : mdS M w h l z s = nI p ∧ mdW M w h l z s p = nI x := by
  have e2 : mdW M w h l z s p = nI x := by
    unfold mdW; rw [if_pos hm]
    exact wFind_some hx (md_wd ci hL h9 hn) (fun j hj => md_f ci hL (h2 j hj))
  refine ⟨wFind_some hp (by rw [e2, decide_eq_false (nI_ne9 (by omega))]; rfl) (fun j hj => ?_), e2⟩
  have : mdW M w h l z s j = -9 := by
    unfold mdW
    cases q : mdM M (j / 4) (j % 4) with
    | false => exact if_neg (by decide)
    | true => rw [if_pos rfl]; exact wFind_none (fun y hy => md_f ci hL (h1 j hj q y hy))
  rw [decide_eq_true this]; rfl
theorem s_mend (ci : CI M w h rn s yr) (l : Int32) : StepI G t_X9_mend t_X10_mend [.int l] M w h rn s yr := by
  have hn6 := ci.n6
  rcases wIn_cases l (m := 4) (by decide) with q | ⟨l, hl, rfl⟩
  · exact st_same ci (c_mend_bad l q) (fun N x => x_mend_bad l q)
  · rcases law_c (N := M) ci hl with q | ⟨z, hL, q⟩
    · exact st_note (by decide) ci (c_mend_no l hl q) (fun N x => x_mend_no l hl ((x.law.1 l hl).trans q))
    · by_cases h9 : lyT w h (M.1 18) (M.1 19) (M.1 (31 + l)) z s (w + h) = -9
      · have hno : NrNo M w h (2 ^ l) := fun t ht => by rw [gS_l hL]; exact ly_no2 hn6 ci.1.2 hL.2.2.2 ci.hd h9 ht
        have hc := c_mend_ok (G := G) w h rn s yr ci l z hL h9
        have hx := fun N (x : XR M N w h rn s yr) => x_mend_ok (G := G) M w h s x.stn ci.tw x.law ci.lw ci.stn x.now.1 ci.hd l hl z ((x.law.1 l hl).trans hL.2.1) hL.2.2.2 hno
        by_cases hS : mdS M w h l z s = -9
        · refine st_sameE (v := -9) ci (MA.mono hc (fun u N q => ?_)) (fun N x => MA.mono (hx N x) (fun u O q => ?_))
          · rcases q with ⟨-, a, b⟩ | ⟨p, y, hp, hy, e, -⟩
            · exact ⟨a, b⟩
            · exact absurd (e.symm.trans hS) (nI_ne9 (by omega))
          · rcases q with ⟨a, b, -⟩ | ⟨p, y, t, R, hp, hy, hm, h1, h2, h3, -⟩
            · exact ⟨a, b.x⟩
            · exact absurd ((mdS_is ci hL h9 hp hy hm h1 h2 h3).1.symm.trans hS) (nI_ne9 (by omega))
        · obtain ⟨p, hp, ep, ep2⟩ : ∃ p, p < 4 * (w * h) ∧ mdS M w h l z s = nI p ∧ ¬ mdW M w h l z s p = -9 := by
            rcases wFind_cases (fun p => !decide (mdW M w h l z s p = -9)) (4 * (w * h)) with ⟨a, -⟩ | ⟨p, hp, a, b, -⟩
            · exact absurd a hS
            · exact ⟨p, hp, a, by simpa using b⟩
          obtain ⟨y, hy, ey⟩ : ∃ y, y < 8 ∧ mdW M w h l z s p = nI y := by
            unfold mdW at ep2 ⊢
            split
            · rename_i c
              rw [if_pos c] at ep2
              rcases wFind_cases (mdP M w h l z s p) 8 with ⟨a, -⟩ | ⟨y, hy, a, -⟩
              · exact absurd a ep2
              · exact ⟨y, hy, a⟩
            · rename_i c; rw [if_neg c] at ep2; exact absurd rfl ep2
          refine st_tellE (v := nI (100 * (p / 4) + 10 * (p % 4) + y)) (x := lyT w h (M.1 18) (upd (M.1 19) p (nI y)) (M.1 (31 + l)) z s (w + h)) ci (MA.mono hc (fun u N q => ?_)) (fun N x => MA.mono (hx N x) (fun u O q => ?_))
          · rcases q with ⟨a, -⟩ | ⟨p2, y2, hp2, hy2, e, e2, a, b⟩
            · exact absurd a hS
            · have : p2 = p := (nI_eq (by omega) (by omega)).mp (e.symm.trans ep)
              subst this
              have : y2 = y := (nI_eq (by omega) (by omega)).mp (e2.symm.trans ey)
              subst this
              exact ⟨a, b⟩
          · rcases q with ⟨-, -, a⟩ | ⟨p2, y2, t, R, hp2, hy2, hm, h1, h2, h3, a, b, c⟩
            · exact absurd (mdS_no ci hL a) hS
            · have e := mdS_is ci hL h9 hp2 hy2 hm h1 h2 h3
              have : p2 = p := (nI_eq (by omega) (by omega)).mp (e.1.symm.trans ep)
              subst this
              have : y2 = y := (nI_eq (by omega) (by omega)).mp (e.2.symm.trans ey)
              subst this
              exact ⟨a, R, b.x, by rw [md_is ci hL h3]; exact c⟩
      · rcases nr_cases ci (pow_l l hl) with ⟨-, b⟩ | ⟨n, t, hn, a, b, c, d⟩
        · exfalso
          obtain ⟨t, ht, ha, -⟩ := ly_is2 hn6 ci.1.2 hL.2.2.2 ci.hd h9
          have := b t ht
          rw [gS_l hL, ha] at this; cases this
        · exact st_sameE ci (c_mend_st w h rn s yr ci l z hL h9).eq (fun N x => MA.mono (x_mend_st M w h s x.stn ci.tw x.law ci.lw ci.stn x.now.1 ci.hd l hl z ((x.law.1 l hl).trans hL.2.1) hL.2.2.2 t c) (fun _ _ q => ⟨q.1, q.2.x⟩))
end STEPS7
