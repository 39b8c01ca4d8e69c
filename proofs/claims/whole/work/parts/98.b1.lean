section STEPS2
variable {G : wm_G} {M : wm_M} {w h rn s yr : Nat}
theorem s_state (ci : CI M w h rn s yr) : StepI G t_X9_state t_X10_state [] M w h rn s yr := st_tell ci (c_state w h rn s yr ci) (fun N x => x_state (w * h) s yr ci.n6 x.stn.2.2.1 x.now ci.hd.1)
theorem s_stone (ci : CI M w h rn s yr) (k what : Int32) : StepI G t_X9_stone t_X10_stone [.int k, .int what] M w h rn s yr := by
  have hn6 := ci.n6
  rcases wIn_cases k (m := w * h) (by omega) with q | ⟨j, hj, rfl⟩
  · exact st_same ci (c_stone_bad1 w h rn s yr ci k q what) (fun N x => x_stone_bad1 M w h x.stn ci.tw k q what)
  · rcases wIn_cases what (m := 6) (by decide) with q | ⟨i, hi, rfl⟩
    · exact st_same ci (c_stone_bad2 w h rn s yr ci j hj what q) (fun N x => x_stone_bad2 M w h x.stn ci.tw j hj what q)
    · exact st_tell ci (c_stone_ok w h rn s yr ci j hj i hi) (fun N x => x_stone_ok M w h x.stn ci.tw s x.now.1 j hj i hi)
theorem s_mark (ci : CI M w h rn s yr) (k kd : Int32) : StepI G t_X9_mark t_X10_mark [.int k, .int kd] M w h rn s yr := by
  have hn6 := ci.n6
  rcases wIn_cases k (m := w * h) (by omega) with q | ⟨j, hj, rfl⟩
  · exact st_same ci (c_mark_bad1 w h rn s yr ci k q kd) (fun N x => x_mark_bad1 M w h x.stn ci.tw k q kd)
  · rcases bd15 kd with q | ⟨i, h1, h5, rfl⟩
    · exact st_same ci (c_mark_bad2 w h rn s yr ci j hj kd q) (fun N x => x_mark_bad2 M w h x.stn ci.tw j hj kd q)
    · cases hof : isOfB (M.1 18 j) (nI i) with
      | false => exact st_note (by decide) ci (c_mark_un w h rn s yr ci j hj i h1 h5 hof) (fun N x => x_mark_un M w h x.stn ci.tw j hj i h1 h5 hof)
      | true =>
        have h9 : i = 1 ∨ i = 2 ∨ i = 3 ∨ i = 4 ∨ i = 5 := by omega
        rcases h9 with e | e | e | e | e <;> subst e
        · exact st_same ci (c_mark_1 w h rn s yr ci j hj hof) (fun N x => x_mark_1 M w h x.stn ci.tw j hj hof)
        · exact st_same ci (c_mark_2 w h rn s yr ci j hj hof) (fun N x => x_mark_2 M w h x.stn ci.tw j hj hof)
        · exact st_same ci (c_mark_3 w h rn s yr ci j hj hof) (fun N x => x_mark_3 M w h x.stn ci.tw j hj hof ci.stn)
        · obtain ⟨sd, hd4, hsd⟩ : ∃ sd, sd < 4 ∧ M.1 20 j = nI sd := by
            rcases ci.stn.2.1 j hj with ⟨-, a⟩ | ⟨a, -⟩
            · exact a
            · exfalso
              rcases isOf_t hof with q | ⟨q, -⟩ | ⟨q, -⟩
              · rw [show M.1 18 j = 4 from q] at a; exact absurd a (by decide)
              · exact absurd q (by decide)
              · exact absurd q (by decide)
          exact st_same ci (c_mark_4 w h rn s yr ci j hj hof sd hd4 hsd) (fun N x => x_mark_4 M w h x.stn ci.tw j hj hof ci.stn sd hd4 hsd)
        · exact st_same ci (c_mark_5 w h rn s yr ci j hj hof) (fun N x => x_mark_5 M w h x.stn ci.tw j hj hof)
theorem s_count (ci : CI M w h rn s yr) (what : Int32) : StepI G t_X9_count t_X10_count [.int what] M w h rn s yr := by
  rcases wIn_cases what (m := 8) (by decide) with q | ⟨i, hi, rfl⟩
  · exact st_same ci (c_count_bad what q) (fun N x => x_count_bad what q)
  · exact st_same ci (c_count_ok w h rn s yr ci i hi) (fun N x => x_count_ok M w h rn x.stn ci.tw ci.rw ci.tx ci.lw x.2.1.1 x.2.2.1.1 x.law.1 x.eng.1 i hi)
theorem hsM_x {N : wm_M} {a : Int64} : FrX N (hsM N a) := ⟨fun _ _ => rfl, fun _ _ => rfl, fun c hc => by unfold hsM wJ; rw [wJa_n (by omega)], fun j hj => wJ_ne hj, fun _ _ => rfl, id⟩
theorem s_digest (ci : CI M w h rn s yr) : StepL G t_X9_digest t_X10_digest [] M w h rn s yr := stL_sameE ci (c_digest w h rn s yr ci).eq (fun N x => MA.mono (x_digest M w h rn x.stn ci.tw ci.rw ci.tx ci.lw x.2.1.1 x.2.2.1.1 x.law.1 x.eng.1 s yr x.now x.law x.kep ci.ro x.eng ci.kp x.2.1 x.2.2.1) (fun _ _ q => ⟨q.1, by rw [q.2]; exact hsM_x⟩))
theorem lvQ_z {C : wm_M} {w h s l z : Nat} (hL : LZ C l z) : lvQ C w h s l = levB w h (C.1 18) (C.1 19) (C.1 20) (C.1 21) (C.1 (31 + l)) z s ∧ lvl C w h l s = levB w h (C.1 18) (C.1 19) (C.1 20) (C.1 21) (C.1 (31 + l)) z s := by
  have e : (C.1 35 l).toNatClampNeg = z := by rw [hL.2.1, nI_clamp (by have := hL.2.2.2; omega)]
  have h1 : lvl C w h l s = levB w h (C.1 18) (C.1 19) (C.1 20) (C.1 21) (C.1 (31 + l)) z s := by unfold lvl; rw [e]
  exact ⟨by unfold lvQ; rw [if_neg (by rw [hL.2.1]; exact nI_nem1 (by have := hL.2.2.2; omega)), h1], h1⟩
theorem lyM_x {N : wm_M} {n : Nat} {f : Nat → Int32} : FrX N (lyM N n f) := FrX.I rfl (by decide)
theorem s_stands (ci : CI M w h rn s yr) (l : Int32) : StepI G t_X9_stands t_X10_stands [.int l] M w h rn s yr := by
  rcases wIn_cases l (m := 4) (by decide) with q | ⟨j, hj, rfl⟩
  · exact st_same ci (c_stands_bad l q) (fun N x => x_stands_bad l q)
  · rcases ci.lw j hj with q | ⟨z, hL, -⟩
    · exact st_note (by decide) ci (c_stands_no j hj q) (fun N x => x_stands_no j hj ((x.law.1 j hj).trans q))
    · refine st_tellE ci (c_stands_ok w h rn s yr ci j z hL).eq (fun N x => MA.mono (x_stands_ok M w h s x.stn ci.tw x.law ci.lw ci.stn x.now.1 j z hL) (fun u O q => ⟨?_, lyM N (w * h) (N.1 107), lyM_x, ?_⟩))
      · rw [q.1, (lvQ_z hL).2]
      · rw [q.2]; unfold lvN levN; rw [hL.2.1, nI_clamp (by have := hL.2.2.2; omega)]
theorem s_laws (ci : CI M w h rn s yr) : StepI G t_X9_laws t_X10_laws [] M w h rn s yr := by
  refine st_tellE ci (c_laws w h rn s yr ci).eq (fun N x => MA.mono (x_laws M w h s x.stn ci.tw x.law ci.lw ci.stn x.now.1) (fun u O q => ⟨?_, lyM N (w * h) (N.1 107), lyM_x, ?_⟩))
  · rw [q.1]; exact congrArg (fun z => some (Value.int (nI z))) (wBits_cong (fun l hl => (sb_lv ci hl ci.hd).symm))
  · rw [q.2]; refine congrArg (fun z => xTell _ (nI z)) (wBits_cong (fun l hl => ?_))
    unfold lvP lvQ
    by_cases e : M.1 35 l = -1
    · rw [if_pos e, decide_eq_true e]; rfl
    · rw [if_neg e, decide_eq_false e]; rfl
/-! now and year -/
theorem XR.nw {C N O : wm_M} {w h rn s yr s2 y2 : Nat} (q : XR C N w h rn s yr) (hr : rn ≤ 4) (f : FrT N O) (x : xNow O (w * h) s2 y2) : XR (nwM C s2 y2) O w h rn s2 y2 := by
  obtain ⟨q1, q2, q3, q4, q5, q6, q7, q8, q9⟩ := q
  have g : ∀ c, c ≠ 0 → (nwM C s2 y2).1 c = C.1 c := fun c hc => nwM_c hc
  have k : ∀ c, c ≠ 96 → c ≠ 107 → c ≠ 111 → O.1 c = N.1 c := f.1
  exact ⟨q1.fr (f.2.1 0 (by decide)) (f.2.1 2 (by decide)) (by rw [f.2.2]) (by rw [f.2.2]) (k 97 (by decide) (by decide) (by decide)) (g 92 (by decide)) (g 93 (by decide)) rfl, q2.fr (k 98 (by decide) (by decide) (by decide)) (k 99 (by decide) (by decide) (by decide)) (g 9 (by decide)) (fun r hr => g _ (by omega)), q3.fr (k 101 (by decide) (by decide) (by decide)) (k 102 (by decide) (by decide) (by decide)) (g 16 (by decide)) (fun r hr => g _ (by omega)), q4.fr (f.2.1 10 (by decide)) (f.2.1 11 (by decide)) (f.2.1 12 (by decide)) (k 103 (by decide) (by decide) (by decide)) (k 104 (by decide) (by decide) (by decide)) (k 105 (by decide) (by decide) (by decide)) (k 106 (by decide) (by decide) (by decide)) (g 18 (by decide)) (g 19 (by decide)) (g 20 (by decide)) (g 21 (by decide)), x, q6.fr (k 109 (by decide) (by decide) (by decide)) (k 110 (by decide) (by decide) (by decide)) (g 35 (by decide)) (fun r hr => g _ (by omega)), q7.fr (k 112 (by decide) (by decide) (by decide)) (k 113 (by decide) (by decide) (by decide)) (g 94 (by decide)) (g 95 (by decide)), q8.fr hr (f.2.1 36 (by decide)) (k 119 (by decide) (by decide) (by decide)) (g 55 (by decide)) (g 56 (by decide)) (g 57 (by decide)) (fun r hr => g _ (by omega)), by unfold xDyn; rw [f.2.2]; exact q9⟩
theorem FrT.m {N O : wm_M} (f : FrT N O) : FrM N O := ⟨fun c hc => f.1 c (by omega) (by omega) (by omega), fun c _ => by rw [f.2.2], fun d _ => by rw [f.2.2]⟩
theorem OnlyC.now {C : wm_M} {s y : Nat} : OnlyC C (nwM C s y) := (OnlyC.I (by decide)).tr (OnlyC.I (by decide))
theorem s_turn (ci : CI M w h rn s yr) (k : Int32) : StepI G t_X9_turn t_X10_turn [.int k] M w h rn s yr := by
  have hn6 := ci.n6
  have hyr := ci.yr
  by_cases q9 : k = -9
  · subst q9
    by_cases hy : yr = 999
    · exact st_same ci (c_turn9_sp w h rn s yr ci hy) (fun N x => x_turn9_sp M w h x.stn ci.tw s yr x.now hy)
    · have e : wI M 0 13 (nI (yr + 1)) = nwM M s (yr + 1) := by unfold nwM; rw [wI_self ci.2.2.1.1]
      have hc := c_turn9_ok (G := G) w h rn s yr ci (by omega)
      rw [e] at hc
      exact stp hc.eq (ci.now ci.hd (by omega)) OnlyC.now (fun N x => MA.mono (x_turn9_ok M w h x.stn ci.tw s yr x.now (by omega)) (fun _ _ q => ⟨q.1, x.nw ci.r4 q.2.1 q.2.2, q.2.1.m⟩))
  · rcases wIn_cases k (m := w * h) (by omega) with q | ⟨j, hj, rfl⟩
    · exact st_same ci (c_turn_bad w h rn s yr ci k q9 q) (fun N x => x_turn_bad M w h x.stn ci.tw k q9 q)
    · have hm : mtB M (w * h) (nI j) = !sFix (M.1 18 j) := by
        unfold mtB; rw [decide_eq_false q9, wIn_nI (by omega), decide_eq_true hj, nI_clamp (by omega)]; rfl
      cases hf : sFix (M.1 18 j) with
      | true => exact st_note (by decide) ci (c_turn_un w h rn s yr ci j hj (by rw [hm, hf]; rfl)) (fun N x => x_turn_un M w h x.stn ci.tw j hj hf)
      | false =>
        by_cases hy : yr = 999
        · exact st_same ci (c_turn_sp w h rn s yr ci j hj (by rw [hm, hf]; rfl) hy) (fun N x => x_turn_sp M w h x.stn ci.tw s yr x.now j hj hf hy)
        · exact stp (C' := nwM M (sMv s j (sStep (M.1 18 j))) (yr + 1)) (c_turn_ok w h rn s yr ci j hj (by rw [hm, hf]; rfl) (by omega)).eq (ci.now (hd_mv ci.hd.hd hn6 hj).had (by omega)) OnlyC.now (fun N x => MA.mono (x_turn_ok M w h x.stn ci.tw s yr x.now j hj hf (by omega)) (fun _ _ q => ⟨q.1, x.nw ci.r4 q.2.1 q.2.2, q.2.1.m⟩))
theorem s_on (ci : CI M w h rn s yr) (k : Int32) : StepI G t_X9_on t_X10_on [.int k] M w h rn s yr := by
  have hn6 := ci.n6
  rcases wIn_cases k (m := 3) (by decide) with q | ⟨j, hj, rfl⟩
  · exact st_same ci (c_on_bad k q) (fun N x => x_on_bad k q)
  · rcases ci.kp j hj with q | ⟨y, s1, hy, e1, e2, hs1⟩
    · exact st_note (by decide) ci (c_on_no j hj q) (fun N x => x_on_no j hj (by rcases x.kep j hj with a | a; (exact a.2); exact absurd q a.1))
    · have hs6 := Nat.lt_of_lt_of_le hs1.1 (p4_le hn6)
      refine stp (C' := nwM M s1 y) (c_on_ok j y s1 hj e1 e2 hy).eq (ci.now hs1 hy) OnlyC.now (fun N x => ?_)
      have hk : ¬ M.1 95 j = -1 := by rw [e1]; exact nI_nem1 (by omega)
      obtain ⟨-, k1, k2⟩ := (x.kep j hj).resolve_left (fun c => hk c.1)
      refine MA.mono (x_on_ok (w * h) j y s1 hj hn6 x.stn.2.2.1 (k1.trans e2) (k2.trans e1) hs6) (fun u O q => ⟨q.1, ?_, ?_⟩)
      · rw [q.2]; exact x.nw ci.r4 (FrT.q.tr FrT.y) ⟨fun i hi => by rw [wI_c (by decide), wIa_s, wTo_in hi], wI_at⟩
      · rw [q.2]; exact (FrM.I (by decide)).tr (FrM.I (by decide))
theorem s_keep (ci : CI M w h rn s yr) (k : Int32) : StepI G t_X9_keep t_X10_keep [.int k] M w h rn s yr := by
  have hn6 := ci.n6
  rcases wIn_cases k (m := 3) (by decide) with q | ⟨j, hj, rfl⟩
  · exact st_same ci (c_keep_bad k q) (fun N x => x_keep_bad k q)
  · by_cases h0 : w * h = 0
    · exact st_same ci (c_keep_st w h rn s yr ci j hj h0) (fun N x => x_keep_st j hj (by rw [x.stn.2.2.1, h0]))
    · have g : ∀ c, c ≠ 94 → c ≠ 95 → (wI (wI M 94 j (nI s)) 95 j (nI yr)).1 c = M.1 c := fun c h1 h2 => by rw [wI_c h2, wI_c h1]
      have f : ∀ c, c < 94 ∨ 95 < c → (wI (wI M 94 j (nI s)) 95 j (nI yr)).1 c = M.1 c := fun c hc => g c (by omega) (by omega)
      have g4 : ∀ i, (wI (wI M 94 j (nI s)) 95 j (nI yr)).1 94 i = if i = j then nI s else M.1 94 i := fun i => by rw [wI_c (by decide)]; unfold wI; rw [wIa_s, upd_if]
      have g5 : ∀ i, (wI (wI M 94 j (nI s)) 95 j (nI yr)).1 95 i = if i = j then nI yr else M.1 95 i := fun i => by
        show (wI _ 95 j _).1 95 i = _
        unfold wI; rw [wIa_s, upd_if, wIa_n (by decide)]
      have hci : CI (wI (wI M 94 j (nI s)) 95 j (nI yr)) w h rn s yr := by
        obtain ⟨q1, q2, q3, q4, q5, q6, q7, q8, q9, q10, q11⟩ := ci
        refine ⟨q1.fr (f 17 (by decide)), q2.fr (f 18 (by decide)) (f 19 (by decide)) (f 20 (by decide)), q3.fr (f 0 (by decide)) (f 18 (by decide)), q4.fr (f 9 (by decide)), q5.fr (f 16 (by decide)), q6.fr (f 35 (by decide)) (fun l hl => f _ (by omega)), fun i hi => ?_, q8.fr (f 54 (by decide)) (f 55 (by decide)) (f 56 (by decide)) (f 57 (by decide)) (f 64 (by decide)), q9.fr (f 1 (by decide)) (f 10 (by decide)) (f 29 (by decide)) (f 58 (by decide)), q10.fr (f 18 (by decide)) (f 19 (by decide)) (f 35 (by decide)) (fun l hl => f _ (by omega)) (fun l hl => rfl), q11⟩
        rw [g4, g5]
        by_cases e : i = j
        · rw [if_pos e, if_pos e]; exact Or.inr ⟨yr, s, q3.2.2.1, rfl, rfl, q3.2.2.2.fr (f 18 (by decide))⟩
        · rw [if_neg e, if_neg e]
          rcases q7 i hi with a | ⟨y, t, a, b, c, d⟩
          · exact Or.inl a
          · exact Or.inr ⟨y, t, a, b, c, d.fr (f 18 (by decide))⟩
      refine stp (c_keep_ok w h rn s yr ci j hj h0).eq hci ((OnlyC.I (by decide)).tr (OnlyC.I (by decide))) (fun N x => MA.mono (x_keep_ok (w * h) s yr j hj hn6 h0 x.stn.2.2.1 x.now ci.hd.1) (fun u O q => ⟨q.1, ?_, ?_⟩))
      · rw [q.2]
        obtain ⟨q1, q2, q3, q4, q5, q6, q7, q8, q9⟩ := x
        have k : ∀ c, c < 112 ∨ 113 < c → (wI (wI N 112 j (nI s)) 113 j (nI yr)).1 c = N.1 c := fun c hc => by rw [wI_c (by omega), wI_c (by omega)]
        have k6 := k 96 (by decide)
        refine ⟨q1.fr (by rw [k6]) (by rw [k6]) rfl rfl (k 97 (by decide)) (f 92 (by decide)) (f 93 (by decide)) rfl, q2.fr (k 98 (by decide)) (k 99 (by decide)) (f 9 (by decide)) (fun r hr => f _ (by omega)), q3.fr (k 101 (by decide)) (k 102 (by decide)) (f 16 (by decide)) (fun r hr => f _ (by omega)), q4.fr (by rw [k6]) (by rw [k6]) (by rw [k6]) (k 103 (by decide)) (k 104 (by decide)) (k 105 (by decide)) (k 106 (by decide)) (f 18 (by decide)) (f 19 (by decide)) (f 20 (by decide)) (f 21 (by decide)), q5.fr (k 107 (by decide)) (by rw [k6]), q6.fr (k 109 (by decide)) (k 110 (by decide)) (f 35 (by decide)) (fun r hr => f _ (by omega)), fun i hi => ?_, q8.fr ci.r4 (by rw [k6]) (k 119 (by decide)) (f 55 (by decide)) (f 56 (by decide)) (f 57 (by decide)) (fun r hr => f _ (by omega)), q9⟩
        rw [g4, g5]
        have k2 : (wI (wI N 112 j (nI s)) 113 j (nI yr)).1 112 i = if i = j then nI s else N.1 112 i := by rw [wI_c (by decide)]; unfold wI; rw [wIa_s, upd_if]
        have k3 : (wI (wI N 112 j (nI s)) 113 j (nI yr)).1 113 i = if i = j then nI yr else N.1 113 i := by
          show (wI _ 113 j _).1 113 i = _
          unfold wI; rw [wIa_s, upd_if, wIa_n (by decide)]
        rw [k2, k3]
        by_cases e : i = j
        · simp only [if_pos e]; exact Or.inr ⟨nI_nem1 (by have := ci.yr; omega), trivial, trivial⟩
        · simp only [if_neg e]; exact q7 i hi
      · rw [q.2]; exact (FrM.I (by decide)).tr (FrM.I (by decide))
end STEPS2
