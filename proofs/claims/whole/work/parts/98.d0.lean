/-! a call whose memory is told only by what it holds -/
def StepB (G : wm_G) (tC tM : wm_T) (args : List Value) (M : wm_M) (w h rn s yr : Nat) : Prop := ∃ v : Int32, MA G tC (wm_r G 0 :: args) M (fun u N => u = some (.int v) ∧ ∃ C' w' h' rn' s' yr', EqR C' N ∧ CI C' w' h' rn' s' yr' ∧ OnlyC M C' ∧ ∀ P, XR M P w h rn s yr → MA G tM (wm_r G 96 :: args) P (fun u O => u = some (.int v) ∧ XR C' O w' h' rn' s' yr' ∧ FrM P O))
theorem StepI.b {G : wm_G} {tC tM : wm_T} {args : List Value} {M : wm_M} {w h rn s yr : Nat} (q : StepI G tC tM args M w h rn s yr) : StepB G tC tM args M w h rn s yr := by
  obtain ⟨v, C', w', h', rn', s', yr', q1, q2, q3, q4⟩ := q
  exact ⟨v, MA.mono q1 (fun u N a => ⟨a.1, C', w', h', rn', s', yr', a.2, q2, q3, q4⟩)⟩
section STEPS4
variable {G : wm_G} {M : wm_M} {w h rn s yr : Nat}
theorem s_law (ci : CI M w h rn s yr) (l r : Int32) : StepB G t_X9_law t_X10_law [.int l, .int r] M w h rn s yr := by
  rcases wIn_cases l (m := 4) (by decide) with q | ⟨a, ha, rfl⟩
  · exact (st_same ci (c_law_bad1 l r q) (fun N x => x_law_bad1 l r q)).b
  · rcases wIn_cases r (m := 6) (by decide) with q | ⟨b, hb, rfl⟩
    · exact (st_same ci (c_law_bad2 a ha r q) (fun N x => x_law_bad2 a ha r q)).b
    · rcases ci.rw b hb with q | ⟨z, hz, e⟩
      · exact (st_note (by decide) ci (c_law_no a ha b hb q) (fun N x => x_law_no a ha b hb (x.rown hb q))).b
      · by_cases hn : z = 0 ∨ 3 < z
        · exact (st_note (by decide) ci (c_law_size a ha b hb z e hz hn) (fun N x => x_law_size a ha b hb z (x.rowz hb e) hz hn)).b
        · have h1 : 1 ≤ z := by omega
          have h3 : z ≤ 3 := by omega
          have hwx : ∀ N, XR M N w h rn s yr → wAll (fun i => inC (N.1 99 (60 * b + i)) 0 7) z = hwB (M.1 (3 + b)) 0 z := fun N x => wAll_cong (fun i hi => by rw [hw7, x.2.1.2 b hb z hz e i hi])
          cases hq : hwB (M.1 (3 + b)) 0 z with
          | false => exact (st_note (by decide) ci (c_law_un a ha b hb z e hz h1 h3 hq) (fun N x => x_law_un a ha b hb z (x.rowz hb e) hz h1 h3 ((hwx N x).trans hq))).b
          | true =>
            refine ⟨nI z, MA.mono (c_law_ok w h rn s yr ci a ha b hb z e hz h1 h3 hq) (fun u N ⟨q1, q2, q3⟩ => ⟨q1, N, w, h, rn, s, yr, EqR.rf N, ?_⟩)⟩
            have f : ∀ c, c ≠ 37 → c ≠ 35 → c ≠ 31 + a → N.1 c = M.1 c := fun c k1 k2 k3 => by
              rw [q2.1 c (nin1 k1)]; unfold lwM; rw [wIa_n k3, wI_c k2]
            have f35 : ∀ i, N.1 35 i = if i = a then nI z else M.1 35 i := fun i => by
              rw [q2.1 35 (nin1 (by decide))]; unfold lwM; rw [wIa_n (by omega)]; unfold wI; rw [wIa_s, upd_if]
            have f31 : N.1 (31 + a) = wTo (M.1 (3 + b)) (M.1 (31 + a)) z := by
              rw [q2.1 _ (nin1 (by omega))]; unfold lwM; rw [wIa_s]
            have f31n : ∀ i, i < 4 → i ≠ a → N.1 (31 + i) = M.1 (31 + i) := fun i hi hne => f _ (by omega) (by omega) (by omega)
            have fJ : ∀ c, c ≠ 38 + 2 * a + 1 → N.2.1 c = M.2.1 c := fun c hc => q2.2.1 c (nin1 hc)
            have fD : N.2.2 = M.2.2 := q2.2.2
            have hwd : ∀ i, i < z → ∃ x, x < 8 ∧ M.1 (3 + b) i = nI x := fun i hi => by
              have := wAll_iff.mp hq i hi
              rw [Bool.and_eq_true] at this
              have k0 : ¬ M.1 (3 + b) i < 0 := by simpa using this.1
              obtain ⟨x, hx, ex⟩ := nI_of k0
              rw [ex] at this
              exact ⟨x, (nI_ltI hx (by decide)).mp (of_decide_eq_true this.2), ex⟩
            have hLw : cLaw N := fun i hi => by
              by_cases e1 : i = a
              · subst e1; right
                refine ⟨z, ⟨hi, by rw [f35, if_pos rfl], h1, h3⟩, fun k hk => ?_⟩
                rw [f31, wTo_in hk]; exact hwd k hk
              · rcases ci.lw i hi with k | ⟨z2, k, k2⟩
                · left; rw [f35, if_neg e1]; exact k
                · right; exact ⟨z2, ⟨hi, by rw [f35, if_neg e1]; exact k.2.1, k.2.2⟩, fun j hj => by rw [f31n i hi e1]; exact k2 j hj⟩
            have hSe : cSet N w h := fun i hi t ht => by
              by_cases e1 : i = a
              · subst e1
                rw [q3 t ht]
                unfold stL
                rw [q2.1 35 (nin1 (by decide)), q2.1 18 (nin1 (by decide)), q2.1 19 (nin1 (by decide)), q2.1 (31 + i) (nin1 (by omega))]
              · rw [fJ _ (by omega), ci.2.2.2.2.2.2.2.2.2.1 i hi t ht]
                unfold stL
                rw [f35, if_neg e1, f 18 (by decide) (by decide) (by omega), f 19 (by decide) (by decide) (by omega), f31n i hi e1]
            have g : ∀ c, (c < 31 ∨ 37 < c) → N.1 c = M.1 c := fun c hc => f c (by omega) (by omega) (by omega)
            refine ⟨?_, ⟨fun c hc => g c (by omega), fun c hc => fJ c (by omega), fun d _ => by rw [fD]⟩, fun P x => ?_⟩
            · obtain ⟨p1, p2, p3, p4, p5, p6, p7, p8, p9, p10, p11⟩ := ci
              exact ⟨p1.fr (g 17 (by decide)), p2.fr (g 18 (by decide)) (g 19 (by decide)) (g 20 (by decide)), p3.fr (g 0 (by decide)) (g 18 (by decide)), p4.fr (g 9 (by decide)), p5.fr (g 16 (by decide)), hLw, p7.fr (g 94 (by decide)) (g 95 (by decide)) (g 18 (by decide)), p8.fr (g 54 (by decide)) (g 55 (by decide)) (g 56 (by decide)) (g 57 (by decide)) (g 64 (by decide)), p9.fr (g 1 (by decide)) (g 10 (by decide)) (g 29 (by decide)) (g 58 (by decide)), hSe, by unfold cDyn; rw [fD]; exact p11⟩
            · refine MA.mono (x_law_ok a ha b hb z (x.rowz hb e) hz h1 h3 ((hwx P x).trans hq)) (fun u O k => ⟨k.1, ?_, ?_⟩)
              · rw [k.2]
                obtain ⟨p1, p2, p3, p4, p5, p6, p7, p8, p9⟩ := x
                have gg : ∀ c, c ≠ 109 → c ≠ 110 → (wIa (wI P 109 a (nI z)) 110 (sgF (P.1 110) (fun i => if i < z then P.1 99 (60 * b + i) else 0) (3 * a) 3)).1 c = P.1 c := fun c k1 k2 => by rw [wIa_n k2, wI_c k1]
                have o : ∀ c, c < 109 ∨ 110 < c → (wIa (wI P 109 a (nI z)) 110 (sgF (P.1 110) (fun i => if i < z then P.1 99 (60 * b + i) else 0) (3 * a) 3)).1 c = P.1 c := fun c hc => gg c (by omega) (by omega)
                have o6 := o 96 (by decide)
                refine ⟨p1.fr (by rw [o6]) (by rw [o6]) rfl rfl (o 97 (by decide)) (g 92 (by decide)) (g 93 (by decide)) (fJ 92 (by omega)), p2.fr (o 98 (by decide)) (o 99 (by decide)) (g 9 (by decide)) (fun r hr => g _ (by omega)), p3.fr (o 101 (by decide)) (o 102 (by decide)) (g 16 (by decide)) (fun r hr => g _ (by omega)), p4.fr (by rw [o6]) (by rw [o6]) (by rw [o6]) (o 103 (by decide)) (o 104 (by decide)) (o 105 (by decide)) (o 106 (by decide)) (g 18 (by decide)) (g 19 (by decide)) (g 20 (by decide)) (g 21 (by decide)), p5.fr (o 107 (by decide)) (by rw [o6]), ⟨fun i hi => ?_, fun i hi z2 hz2 e2 j hj => ?_⟩, p7.fr (o 112 (by decide)) (o 113 (by decide)) (g 94 (by decide)) (g 95 (by decide)), p8.fr ci.r4 (by rw [o6]) (o 119 (by decide)) (g 55 (by decide)) (g 56 (by decide)) (g 57 (by decide)) (fun r hr => g _ (by omega)), p9⟩
                · rw [f35, wIa_n (by decide)]; unfold wI; rw [wIa_s, upd_if]; split
                  · rfl
                  · exact p6.1 i hi
                · rw [wIa_s]
                  by_cases e1 : i = a
                  · subst e1
                    rw [f35, if_pos rfl] at e2
                    have : z = z2 := (nI_eq (by omega) (by omega)).mp e2
                    subst this
                    rw [sgF_in (by omega), if_pos hj, f31, wTo_in hj]
                    exact p2.2 b hb z hz e j hj
                  · rw [f35, if_neg e1] at e2
                    rw [sgF_out (by omega), f31n i hi e1]; exact p6.2 i hi z2 hz2 e2 j hj
              · rw [k.2]; exact (FrM.I (by decide)).tr (FrM.I (by decide))
theorem s_reads (ci : CI M w h rn s yr) (st e r : Int32) : StepI G t_X9_reads t_X10_reads [.int st, .int e, .int r] M w h rn s yr := by
  have hw3 := ci.tw.2.2.1
  have hh2 := ci.tw.2.2.2
  cases hb : (wIn st (w + h) && wIn e 2) with
  | false => exact st_same ci (c_reads_bad1 w h rn s yr ci st e r hb) (fun N x => x_reads_bad1 M w h x.stn ci.tw st e r hb)
  | true =>
    rw [Bool.and_eq_true] at hb
    obtain ⟨a, ha, rfl⟩ := wIn_ex (by omega) hb.1
    obtain ⟨c, hc, rfl⟩ := wIn_ex (by omega) hb.2
    rcases wIn_cases r (m := 6) (by decide) with q | ⟨b, hb2, rfl⟩
    · exact st_same ci (c_reads_bad2 w h rn s yr ci a c ha hc r q) (fun N x => x_reads_bad2 M w h x.stn ci.tw a c ha hc r q)
    · have hlen : sLen w h a ≤ 3 := by unfold sLen; split <;> omega
      have e9 : ∀ r2, (wIa (wI M 9 b (nI (sLen w h a))) (3 + b) (wTo (wordR M w h s a c) (M.1 (3 + b)) (sLen w h a))).1 9 r2 = if r2 = b then nI (sLen w h a) else M.1 9 r2 := fun r2 => by
        rw [wIa_n (by omega)]; unfold wI; rw [wIa_s, upd_if]
      have hO : OnR M (wIa (wI M 9 b (nI (sLen w h a))) (3 + b) (wTo (wordR M w h s a c) (M.1 (3 + b)) (sLen w h a))) := ⟨fun c h1 h2 => by rw [wIa_n (by omega), wI_c h1], rfl⟩
      refine stp (c_reads_ok w h rn s yr ci a c ha hc b hb2).eq (ci.row hO (cRow_set ci.rw (by omega) e9)) hO.o (fun N x => MA.mono (x_reads_ok M w h s x.stn ci.tw x.law ci.lw ci.stn x.now.1 a c ha hc b hb2) (fun u O q => ⟨?_, ?_, ?_⟩))
      · rw [q.1, show min 60 (sLen w h a) = sLen w h a by omega]
      · rw [q.2]
        have x2 : XR M (lyM N (w * h) (N.1 107)) w h rn s yr := x.fr ci.r4 lyM_x
        have l9 : ∀ c, c ≠ 111 → (lyM N (w * h) (N.1 107)).1 c = N.1 c := fun c hc => wIa_n hc
        refine x2.row ci.r4 hO (fun c h1 h2 => by rw [wIa_n h2, wI_c h1]) rfl (xRow_set (f := wordR M w h s a c) x2.2.1 hb2 (by omega) e9 (fun r2 h2 h3 => by rw [wIa_n (by omega), wI_c (by omega)]) (fun i hi => by rw [wIa_s, wTo_in hi]) (fun r2 => by rw [wIa_n (by decide)]; unfold wI; rw [wIa_s, upd_if]) (fun r2 h2 h3 i hi => by rw [wIa_s, sgF_out (by omega), l9 99 (by decide)]) (fun i hi => by rw [wIa_s, sgF_in (by omega), if_pos hi]))
      · rw [q.2]; exact (lyM_x.m.tr (FrM.I (by decide))).tr (FrM.I (by decide))
theorem s_way (ci : CI M w h rn s yr) (set r : Int32) : StepI G t_X9_way t_X10_way [.int set, .int r] M w h rn s yr := by
  have hn6 := ci.n6
  rcases wIn_cases set (m := 16) (by decide) with q | ⟨k, hk, rfl⟩
  · exact st_same ci (c_way_bad1 set r q) (fun N x => x_way_bad1 set r q)
  · rcases wIn_cases r (m := 6) (by decide) with q | ⟨b, hb, rfl⟩
    · exact st_same ci (c_way_bad2 k hk r q) (fun N x => x_way_bad2 k hk r q)
    · rcases nr_cases ci hk with ⟨a, c⟩ | ⟨n, t, hn, a, b2, c, d⟩
      · exact st_sameE ci (c_way_no w h rn s yr ci k hk a b hb) (fun N x => MA.mono (x_way_no M w h s x.stn ci.tw x.law ci.lw ci.stn x.now.1 ci.hd k hk c b hb) (fun _ _ q => ⟨q.1, q.2.x⟩))
      · have e9 : ∀ r2, (wyM M b n (lnF (M.1 18) (w * h) s t)).1 9 r2 = if r2 = b then nI n else M.1 9 r2 := fun r2 => by
          unfold wyM; rw [wIa_n (by omega)]; unfold wI; rw [wIa_s, upd_if]
        have hO : OnR M (wyM M b n (lnF (M.1 18) (w * h) s t)) := ⟨fun c h1 h2 => by unfold wyM; rw [wIa_n (by omega), wI_c h1], rfl⟩
        refine stp (c_way_ok w h rn s yr ci k hk n hn a t b2 c.1 d b hb) (ci.row hO (cRow_set ci.rw (by omega) e9)) hO.o (fun N x => MA.mono (x_way_ok M w h s x.stn ci.tw x.law ci.lw ci.stn x.now.1 ci.hd k hk t n c d b hb) (fun u O ⟨q1, P, q2, q3⟩ => ⟨q1, ?_, ?_⟩))
        · rw [q3]
          have x2 : XR M P w h rn s yr := x.fr ci.r4 q2
          refine x2.row ci.r4 hO (fun c h1 h2 => by rw [wIa_n h2, wI_c h1]) rfl (xRow_set (f := lnF (M.1 18) (w * h) s t) x2.2.1 hb (by omega) e9 (fun r2 h2 h3 => by unfold wyM; rw [wIa_n (by omega), wI_c (by omega)]) (fun i hi => by unfold wyM; rw [wIa_s, wTo_in hi]) (fun r2 => by rw [wIa_n (by decide)]; unfold wI; rw [wIa_s, upd_if]) (fun r2 h2 h3 i hi => by rw [wIa_s, sgF_out (by omega)]) (fun i hi => by rw [wIa_s, sgF_in (by omega), if_pos hi]))
        · rw [q3]; exact (q2.m.tr (FrM.I (by decide))).tr (FrM.I (by decide))
theorem s_till (ci : CI M w h rn s yr) (r l : Int32) : StepI G t_X9_till t_X10_till [.int r, .int l] M w h rn s yr := by
  have hn6 := ci.n6
  rcases wIn_cases r (m := 6) (by decide) with q | ⟨b, hb, rfl⟩
  · exact st_same ci (c_till_bad1 r l q) (fun N x => x_till_bad1 r l q)
  · rcases wIn_cases l (m := 4) (by decide) with q | ⟨a, ha, rfl⟩
    · exact st_same ci (c_till_bad2 b hb l q) (fun N x => x_till_bad2 b hb l q)
    · rcases ci.lw a ha with q | ⟨zl, hL, -⟩
      · exact st_note (by decide) ci (c_till_no1 b hb a ha q) (fun N x => x_till_no1 b hb a ha ((x.law.1 a ha).trans q))
      · have hzl : ¬ M.1 35 a = -1 := by rw [hL.2.1]; exact nI_nem1 (by have := hL.2.2.2; omega)
        have xl : ∀ N, XR M N w h rn s yr → N.1 109 a = nI zl := fun N x => (x.law.1 a ha).trans hL.2.1
        rcases ci.rw b hb with q | ⟨z, hz, e⟩
        · exact st_note (by decide) ci (c_till_no2 b hb a ha hzl q) (fun N x => x_till_no2 b hb a ha zl (xl N x) hL.2.2.2 (x.rown hb q))
        · have xf : ∀ N, XR M N w h rn s yr → ∀ i, i < z → N.1 99 (60 * b + i) = M.1 (3 + b) i := fun N x i hi => x.2.1.2 b hb z hz e i hi
          cases hq : wAll (fun i => mtB M (w * h) (M.1 (3 + b) i)) z with
          | false => exact st_note (by decide) ci (c_till_un w h rn s yr ci b hb a ha hzl z e hz hq) (fun N x => x_till_un M w h s yr x.stn ci.tw x.law ci.lw ci.stn x.now ci.hd b hb a ha zl (xl N x) hL.2.2.2 z (x.rowz hb e) hz (M.1 (3 + b)) (xf N x) hq)
          | true =>
            by_cases hy : yr + z ≤ 999
            · have hmt : ∀ j, j < z → mtB M (w * h) (M.1 (3 + b) j) = true := fun j hj => wAll_iff.mp hq j hj
              have hN9 : tlN M (M.1 (3 + b)) s a z ≤ z := by
                rcases wFind_cases (tlP M (M.1 (3 + b)) s a) (z + 1) with ⟨k, -⟩ | ⟨i, hi, k, -⟩
                · rw [tlN_none k]; exact Nat.le_refl _
                · rw [tlN_some (by omega) k]; omega
              refine stp (c_till_ok w h rn s yr ci b hb a ha hzl z e hz hq hy).eq (ci.now (hd_rwS hn6 ci.hd _ (fun j hj => hmt j (by omega))) (by omega)) OnlyC.now (fun N x => MA.mono (x_till_ok M w h s yr x.stn ci.tw x.law ci.lw ci.stn x.now ci.hd b hb a ha zl (xl N x) hL.2.2.2 z (x.rowz hb e) hz (M.1 (3 + b)) (xf N x) hq hy (tlP M (M.1 (3 + b)) s a) (fun i hi => (sb_lv ci ha (hd_rwS hn6 ci.hd i (fun j hj => hmt j (by omega)))).symm)) (fun u O ⟨i, hi, f, nw, k⟩ => ?_))
              rcases k with ⟨k1, k2⟩ | ⟨k1, k2, k3⟩
              · rw [tlN_some (by omega) k2]
                exact ⟨by rw [k1, k2], x.nw ci.r4 f nw, f.m⟩
              · rw [tlN_none k2]
                rw [k3] at nw
                exact ⟨by rw [k1, k2], x.nw ci.r4 f nw, f.m⟩
            · exact st_same ci (c_till_sp w h rn s yr ci b hb a ha hzl z e hz hq (by omega)) (fun N x => x_till_sp M w h s yr x.stn ci.tw x.law ci.lw ci.stn x.now ci.hd b hb a ha zl (xl N x) hL.2.2.2 z (x.rowz hb e) hz (M.1 (3 + b)) (xf N x) hq ci.yr (by omega))
end STEPS4
