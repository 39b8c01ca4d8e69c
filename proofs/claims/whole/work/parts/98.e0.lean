/-! a town whose text has no fault: its stones are as they must be -/
theorem skp_mx {ch : Nat → Int32} {sz p B : Nat} (h1 : p ≤ B) (h2 : sz ≤ B) : skp ch sz p ≤ B := by
  rcases Nat.le_total p sz with q | q
  · have := (skp_le (ch := ch) q).2; omega
  · rw [skp_end q]; exact h1
theorem prest_ok {ch : Nat → Int32} {sz : Nat} : ∀ {n p : Nat} (B : Nat), p ≤ B → sz ≤ B → B + 7 * n < 1000 → prest ch sz n p = -9 → ∀ k, k < n → (stEnd ch (stAt ch sz k p)).2 = true
  | 0, p, _, _, _, _, _, k, hk => absurd hk (Nat.not_lt_zero _)
  | n + 1, p, B, b1, b2, b3, h, k, hk => by
    have h7 := stEnd_7 ch (skp ch sz p)
    have h8 := skp_mx (ch := ch) b1 b2
    have h2 : (stEnd ch (skp ch sz p)).2 = true := by
      cases q : (stEnd ch (skp ch sz p)).2 with
      | true => rfl
      | false =>
        rw [prest_f (by omega) q] at h
        exfalso
        exact nI_ne9 (by omega) h
    cases k with
    | zero => exact h2
    | succ k =>
      rw [stAt_s]
      exact prest_ok (n := n) (B + 7) (by omega) (by omega) (by omega) (by simp only [prest] at h; rw [if_pos h2] at h; exact h) k (by omega)
theorem stEnd_ok {ch : Nat → Int32} {p : Nat} (h : (stEnd ch p).2 = true) : (∃ x, x < 6 ∧ kindC (ch p) = nI x) ∧ (∀ i, i < 4 → inC (ch (p + 1 + i)) 97 104 = true) ∧ (isOfB (kindC (ch p)) 1 = true → inC (ch (p + 5)) 48 51 = true) ∧ (kindC (ch p) = 1 → inC (ch (p + 6)) 97 104 = true) := by
  unfold stEnd at h
  split at h
  · cases h
  · rename_i hk
    split at h
    · cases h
    · rename_i hw
      have hw4 : wdN ch 4 (p + 1) = 4 := by have := wdN_le ch 4 (p + 1); omega
      refine ⟨kind_c.resolve_left hk, ?_, ?_⟩
      · simp only [wdN] at hw4
        cases q0 : inC (ch (p + 1)) 97 104 <;> simp [q0] at hw4
        cases q1 : inC (ch (p + 1 + 1)) 97 104 <;> simp [q1] at hw4
        cases q2 : inC (ch (p + 1 + 1 + 1)) 97 104 <;> simp [q2] at hw4
        intro i hi
        have h9 : i = 0 ∨ i = 1 ∨ i = 2 ∨ i = 3 := by omega
        rcases h9 with e | e | e | e <;> subst e
        · exact q0
        · exact q1
        · exact q2
        · exact hw4
      · unfold sdEnd at h
        split at h
        · rename_i h1
          exact ⟨fun c => (by rw [h1] at c; cases c), fun c => (by rw [c] at h1; exact absurd h1 (by decide))⟩
        · split at h
          · cases h
          · rename_i h1 h2
            refine ⟨fun _ => by simpa using h2, fun c => ?_⟩
            split at h
            · rename_i h3; rw [c] at h3; exact absurd h3 (by decide)
            · split at h
              · cases h
              · rename_i h3 h4; simpa using h4
theorem town_stn {M N : wm_M} {j z : Nat} (hf : tFault (chF M j z) z = -9) (hz : z ≤ 80) (t : ∀ k, k < gW (chF M j z) z * gH (chF M j z) z → (fun (ch : Nat → Int32) (p : Nat) => N.1 18 k = kindC (ch p) ∧ (∀ i, i < 4 → N.1 19 (4 * k + i) = if kindC (ch p) = 4 ∧ ch (p + 5) - 48 = nI i then -1 else ch (p + 1 + i) - 97) ∧ N.1 20 k = (if isOfB (kindC (ch p)) 1 then ch (p + 5) - 48 else -9) ∧ (kindC (ch p) = 1 → N.1 21 k = ch (p + 6) - 97)) (chF M j z) (stAt (chF M j z) z k (skp (chF M j z) z 0 + 3))) : cStn N (gW (chF M j z) z * gH (chF M j z) z) := by
  generalize hch : chF M j z = ch at hf t ⊢
  have hg : gOk ch z := by
    unfold tFault at hf
    have h0 := (skp_le (ch := ch) (sz := z) (p := 0) (Nat.zero_le _)).2
    split at hf
    · exact absurd hf (nI_ne9 (by omega))
    · split at hf
      · exact absurd hf (nI_ne9 (by omega))
      · split at hf
        · exact absurd hf (nI_ne9 (by omega))
        · rename_i h1 h2 h3; exact ⟨by simpa using h1, by simpa using h2, by simpa using h3⟩
  have hp : prest ch z (gW ch z * gH ch z) (skp ch z 0 + 3) = -9 := by rw [← tFault_ok hg]; exact hf
  have key : ∀ k, k < gW ch z * gH ch z → _ := fun k hk => stEnd_ok (prest_ok 83 (by have := skp_mx (ch := ch) (sz := z) (p := 0) (B := 80) (by omega) hz; omega) (by omega) (by have hb := g_bd hg; have := Nat.mul_le_mul hb.2.1 hb.2.2.2; omega) hp k hk)
  refine ⟨fun k hk => ?_, fun k hk => ?_, fun k hk i hi => ?_⟩
  · obtain ⟨x, hx, ex⟩ := (key k hk).1
    exact ⟨x, hx, (t k hk).1.trans ex⟩
  · obtain ⟨a, b, c, d⟩ := t k hk
    rw [a, c]
    cases q : isOfB (kindC (ch (stAt ch z k (skp ch z 0 + 3)))) 1 with
    | true =>
      left
      obtain ⟨y, h1, h2, -⟩ := inC_of (a := 48) (b := 51) (by decide) (by decide) ((key k hk).2.2.1 q)
      exact ⟨rfl, y, by omega, by rw [if_pos rfl]; exact h2⟩
    | false => right; exact ⟨rfl, if_neg (by decide)⟩
  · obtain ⟨a, b, c, d⟩ := t k hk
    rw [a, c, b i hi]
    by_cases q : kindC (ch (stAt ch z k (skp ch z 0 + 3))) = 4 ∧ ch (stAt ch z k (skp ch z 0 + 3) + 5) - 48 = nI i
    · left
      rw [if_pos q]
      refine ⟨q.1, ?_, rfl⟩
      rw [if_pos (isOf1.mpr (Or.inr q.1))]; exact q.2
    · right
      rw [if_neg q]
      obtain ⟨y, h1, h2, -⟩ := inC_of (a := 97) (b := 104) (by decide) (by decide) ((key k hk).2.1 i hi)
      refine ⟨fun e => q ⟨e.1, ?_⟩, y, by omega, h2⟩
      have := e.2
      rw [if_pos (isOf1.mpr (Or.inr e.1))] at this; exact this
section STEPS5
variable {G : wm_G} {M : wm_M} {w h rn s yr : Nat}
theorem s_engrave (ci : CI M w h rn s yr) (y st e r : Int32) : StepI G t_X9_engrave t_X10_engrave [.int y, .int st, .int e, .int r] M w h rn s yr := by
  have hw3 := ci.tw.2.2.1
  have hh2 := ci.tw.2.2.2
  have hr4 := ci.r4
  rcases wIn_cases y (m := 10) (by decide) with q | ⟨y, hy, rfl⟩
  · exact st_same ci (c_engr_bad1 y st e r q) (fun N x => x_engr_bad1 y st e r q)
  · cases hb : (wIn st (w + h) && wIn e 2) with
    | false => exact st_same ci (c_engr_bad2 w h rn s yr ci y hy st e r hb) (fun N x => x_engr_bad2 M w h x.stn ci.tw y hy st e r hb)
    | true =>
      rw [Bool.and_eq_true] at hb
      obtain ⟨a, ha, rfl⟩ := wIn_ex (by omega) hb.1
      obtain ⟨c, hc, rfl⟩ := wIn_ex (by omega) hb.2
      have hlen : sLen w h a ≤ 3 := by unfold sLen; split <;> omega
      rcases wIn_cases r (m := 6) (by decide) with q | ⟨b, hb2, rfl⟩
      · exact st_same ci (c_engr_bad3 w h rn s yr ci y hy a c ha hc r q) (fun N x => x_engr_bad3 M w h x.stn ci.tw y hy a c ha hc r q)
      · rcases ci.rw b hb2 with q | ⟨z, hz, ez⟩
        · exact st_note (by decide) ci (c_engr_no w h rn s yr ci y hy a c ha hc b hb2 q) (fun N x => x_engr_no M w h x.stn ci.tw y hy a c ha hc b hb2 (x.rown hb2 q))
        · by_cases hze : z = sLen w h a
          · have hwx : ∀ N, XR M N w h rn s yr → wAll (fun i => inC (N.1 99 (60 * b + i)) (-1) 7) z = hwB (M.1 (3 + b)) (-1) z := fun N x => wAll_cong (fun i hi => by rw [hw7, x.2.1.2 b hb2 z hz ez i hi])
            cases hq : hwB (M.1 (3 + b)) (-1) z with
            | false => exact st_note (by decide) ci (c_engr_un w h rn s yr ci y hy a c ha hc b hb2 z ez hz hze hq) (fun N x => x_engr_un M w h x.stn ci.tw y hy a c ha hc b hb2 z (x.rowz hb2 ez) hz hze ((hwx N x).trans hq))
            | true =>
              by_cases hf : rn = 4
              · exact st_same ci (c_engr_full w h rn s yr ci y hy a c ha hc b hb2 z ez hz hze hq hf) (fun N x => x_engr_full M w h x.stn ci.tw y hy a c ha hc b hb2 z (x.rowz hb2 ez) hz hze ((hwx N x).trans hq) rn x.eng.1 hf)
              · have hf4 : rn < 4 := by omega
                have f : ∀ k, (k < 54 ∨ 64 < k ∨ k = 58 ∨ k = 59) → (egM M rn y a c b z).1 k = M.1 k := fun k hk => by
                  unfold egM; rw [wI_c (by omega), wIa_n (by omega), wI_c (by omega), wI_c (by omega), wI_c (by omega), wI_c (by omega)]
                have f55 : ∀ i, (egM M rn y a c b z).1 55 i = if i = rn then nI y else M.1 55 i := fun i => by
                  unfold egM; rw [wI_c (by decide), wIa_n (by omega), wI_c (by decide), wI_c (by decide), wI_c (by decide)]; unfold wI; rw [wIa_s, upd_if]
                have f56 : ∀ i, (egM M rn y a c b z).1 56 i = if i = rn then nI a else M.1 56 i := fun i => by
                  unfold egM; rw [wI_c (by decide), wIa_n (by omega), wI_c (by decide), wI_c (by decide)]; unfold wI; rw [wIa_s, upd_if, wIa_n (by decide)]
                have f57 : ∀ i, (egM M rn y a c b z).1 57 i = if i = rn then nI c else M.1 57 i := fun i => by
                  unfold egM; rw [wI_c (by decide), wIa_n (by omega), wI_c (by decide)]; unfold wI; rw [wIa_s, upd_if, wIa_n (by decide), wIa_n (by decide)]
                have f64 : ∀ i, (egM M rn y a c b z).1 64 i = if i = rn then nI z else M.1 64 i := fun i => by
                  unfold egM; rw [wI_c (by decide), wIa_n (by omega)]; unfold wI; rw [wIa_s, upd_if, wIa_n (by decide), wIa_n (by decide), wIa_n (by decide)]
                have f60 : (egM M rn y a c b z).1 (60 + rn) = wTo (M.1 (3 + b)) (M.1 (60 + rn)) z := by
                  unfold egM; rw [wI_c (by omega), wIa_s]
                have f60n : ∀ i, i < 4 → i ≠ rn → (egM M rn y a c b z).1 (60 + i) = M.1 (60 + i) := fun i hi hne => by
                  unfold egM; rw [wI_c (by omega), wIa_n (by omega), wI_c (by omega), wI_c (by omega), wI_c (by omega), wI_c (by omega)]
                have f54 : (egM M rn y a c b z).1 54 0 = nI (rn + 1) := by unfold egM; rw [wI_at]
                have hci : CI (egM M rn y a c b z) w h (rn + 1) s yr := by
                  obtain ⟨q1, q2, q3, q4, q5, q6, q7, q8, q9, q10, q11⟩ := ci
                  refine ⟨q1.fr (f 17 (by decide)), q2.fr (f 18 (by decide)) (f 19 (by decide)) (f 20 (by decide)), q3.fr (f 0 (by decide)) (f 18 (by decide)), q4.fr (f 9 (by decide)), q5.fr (f 16 (by decide)), q6.fr (f 35 (by decide)) (fun l hl => f _ (by omega)), q7.fr (f 94 (by decide)) (f 95 (by decide)) (f 18 (by decide)), ⟨f54, by omega, fun i hi => ?_⟩, q9.fr (f 1 (by decide)) (f 10 (by decide)) (f 29 (by decide)) (f 58 (by decide)), q10.fr (f 18 (by decide)) (f 19 (by decide)) (f 35 (by decide)) (fun l hl => f _ (by omega)) (fun l hl => rfl), q11⟩
                  by_cases e1 : i = rn
                  · refine ⟨y, a, c, ?_⟩
                    unfold RE; rw [f55, f56, f57, f64, if_pos e1, if_pos e1, if_pos e1, if_pos e1]
                    exact ⟨rfl, by omega, rfl, ha, rfl, hc, by rw [hze]⟩
                  · obtain ⟨y1, st1, en1, hre⟩ := q8.2.2 i (by omega)
                    refine ⟨y1, st1, en1, ?_⟩
                    unfold RE; rw [f55, f56, f57, f64, if_neg e1, if_neg e1, if_neg e1, if_neg e1]; exact hre
                have hO : OnlyC M (egM M rn y a c b z) := ⟨fun c hc => f c (by omega), fun c _ => rfl, fun d _ => rfl⟩
                refine stp (c_engr_ok w h rn s yr ci y hy a c ha hc b hb2 z ez hz hze hq hf4).eq hci hO (fun N x => MA.mono (x_engr_ok M w h x.stn ci.tw y hy a c ha hc b hb2 z (x.rowz hb2 ez) hz hze ((hwx N x).trans hq) rn x.eng.1 hf4) (fun u O q => ⟨q.1, ?_, ?_⟩))
                · rw [q.2]
                  obtain ⟨q1, q2, q3, q4, q5, q6, q7, q8, q9⟩ := x
                  have k : ∀ c', c' ≠ 96 → c' ≠ 119 → (exM N rn y a c (fun i => if i < z then N.1 99 (60 * b + i) else 0)).1 c' = N.1 c' := fun c' k1 k2 => by unfold exM; rw [wI_c k1, wIa_n k2]
                  have k6 : ∀ i, i ≠ 36 → (exM N rn y a c (fun i => if i < z then N.1 99 (60 * b + i) else 0)).1 96 i = N.1 96 i := fun i hi => by unfold exM; rw [wI_ne (fun e => hi e.2), wIa_n (by decide)]
                  have k9 : (exM N rn y a c (fun i => if i < z then N.1 99 (60 * b + i) else 0)).1 119 = sgF (upd (upd (upd (N.1 119) (6 * rn) (nI y)) (6 * rn + 1) (nI a)) (6 * rn + 2) (nI c)) (fun i => if i < z then N.1 99 (60 * b + i) else 0) (6 * rn + 3) 3 := by unfold exM; rw [wI_c (by decide), wIa_s]
                  refine ⟨q1.fr (k6 0 (by decide)) (k6 2 (by decide)) rfl rfl (k 97 (by decide) (by decide)) (f 92 (by decide)) (f 93 (by decide)) rfl, q2.fr (k 98 (by decide) (by decide)) (k 99 (by decide) (by decide)) (f 9 (by decide)) (fun r hr => f _ (by omega)), q3.fr (k 101 (by decide) (by decide)) (k 102 (by decide) (by decide)) (f 16 (by decide)) (fun r hr => f _ (by omega)), q4.fr (k6 10 (by decide)) (k6 11 (by decide)) (k6 12 (by decide)) (k 103 (by decide) (by decide)) (k 104 (by decide) (by decide)) (k 105 (by decide) (by decide)) (k 106 (by decide) (by decide)) (f 18 (by decide)) (f 19 (by decide)) (f 20 (by decide)) (f 21 (by decide)), q5.fr (k 107 (by decide) (by decide)) (k6 18 (by decide)), q6.fr (k 109 (by decide) (by decide)) (k 110 (by decide) (by decide)) (f 35 (by decide)) (fun r hr => f _ (by omega)), q7.fr (k 112 (by decide) (by decide)) (k 113 (by decide) (by decide)) (f 94 (by decide)) (f 95 (by decide)), ⟨by unfold exM; rw [wI_at], fun i hi => ?_⟩, q9⟩
                  rw [k9]
                  by_cases e1 : i = rn
                  · subst e1
                    have heS : eS (egM M i y a c b z) i = a := by unfold eS; rw [f56, if_pos rfl, nI_clamp (by omega)]
                    rw [heS, f55, f56, f57, if_pos rfl, if_pos rfl, if_pos rfl, f60]
                    refine ⟨?_, ?_, ?_, fun j hj => ?_⟩
                    · rw [sgF_out (by omega), upd_n (by omega), upd_n (by omega), upd_s]
                    · rw [sgF_out (by omega), upd_n (by omega), upd_s]
                    · rw [sgF_out (by omega), upd_s]
                    · rw [sgF_in (by omega), if_pos (by omega), wTo_in (by omega)]; exact q2.2 b hb2 z hz ez j (by omega)
                  · have hi4 : i < rn := by omega
                    obtain ⟨g0, g1, g2, g3⟩ := q8.2 i hi4
                    have heS : eS (egM M rn y a c b z) i = eS M i := by unfold eS; rw [f56, if_neg e1]
                    have hst : sLen w h (eS M i) ≤ 3 := by unfold sLen; split <;> omega
                    rw [heS, f55, f56, f57, if_neg e1, if_neg e1, if_neg e1, f60n i (by omega) e1]
                    refine ⟨?_, ?_, ?_, fun j hj => ?_⟩
                    · rw [sgF_out (by omega), upd_n (by omega), upd_n (by omega), upd_n (by omega)]; exact g0
                    · rw [sgF_out (by omega), upd_n (by omega), upd_n (by omega), upd_n (by omega)]; exact g1
                    · rw [sgF_out (by omega), upd_n (by omega), upd_n (by omega), upd_n (by omega)]; exact g2
                    · rw [sgF_out (by omega), upd_n (by omega), upd_n (by omega), upd_n (by omega)]; exact g3 j hj
                · rw [q.2]; exact (FrM.I (by decide)).tr (FrM.I (by decide))
          · exact st_note (by decide) ci (c_engr_size w h rn s yr ci y hy a c ha hc b hb2 z ez hz hze) (fun N x => x_engr_size M w h x.stn ci.tw y hy a c ha hc b hb2 z (x.rowz hb2 ez) hz hze)
theorem s_town (ci : CI M w h rn s yr) (r : Int32) : StepB G t_X9_town t_X10_town [.int r] M w h rn s yr := by
  rcases wIn_cases r (m := 4) (by decide) with q | ⟨j, hj, rfl⟩
  · exact (st_same ci (c_town_bad r q) (fun N x => x_town_bad r q)).b
  · rcases ci.tx j hj with q | ⟨z, hz, e⟩
    · exact (st_note (by decide) ci (c_town_no j hj q) (fun N x => x_town_no j hj (x.txtn hj q))).b
    · by_cases hf : tFault (chF M j z) z = -9
      · refine ⟨nI (gW (chF M j z) z * gH (chF M j z) z), MA.mono (c_town_ok w h rn s yr ci j hj z e hz hf) (fun u N ⟨q1, q2⟩ => ⟨q1, N, gW (chF M j z) z, gH (chF M j z) z, 0, 0, 0, EqR.rf N, ?_⟩)⟩
        obtain ⟨t1, t2, t3, t4, t5, t6, t7, t8, hg, t9, t10, t11, t12⟩ := q2
        have hgb := g_bd hg
        have hW : TW N (gW (chF M j z) z) (gH (chF M j z) z) := ⟨t9, t10, hgb.2.1, hgb.2.2.2⟩
        have hn6 := TW_n hW
        have f : ∀ c, scB c = false → c ≠ 0 → (c < 17 ∨ 21 < c) → c ≠ 54 → c ≠ 95 → N.1 c = M.1 c := t2
        have f31 : ∀ l, l < 4 → N.1 (31 + l) = M.1 (31 + l) := fun l hl => f _ (by unfold scB; simp; omega) (by omega) (by omega) (by omega) (by omega)
        have f3 : ∀ l, l < 6 → N.1 (3 + l) = M.1 (3 + l) := fun l hl => f _ (by unfold scB; simp; omega) (by omega) (by omega) (by omega) (by omega)
        have f12 : ∀ l, l < 4 → N.1 (12 + l) = M.1 (12 + l) := fun l hl => f _ (by unfold scB; simp; omega) (by omega) (by omega) (by omega) (by omega)
        have hS : cStn N (gW (chF M j z) z * gH (chF M j z) z) := town_stn hf hz t12
        refine ⟨⟨⟨hW, Or.inr ⟨hgb.1, hgb.2.2.1⟩⟩, hS, ⟨t3, t4, by decide, (hd_0 (N.1 18) hn6).had⟩, ci.rw.fr (f 9 rfl (by decide) (by decide) (by decide) (by decide)), ci.tx.fr (f 16 rfl (by decide) (by decide) (by decide) (by decide)), ci.lw.fr (f 35 rfl (by decide) (by decide) (by decide) (by decide)) f31, fun k hk => Or.inl (t6 k hk), ⟨t5, by decide, fun e he => absurd he (Nat.not_lt_zero _)⟩, ci.2.2.2.2.2.2.2.2.1.fr (f 1 rfl (by decide) (by decide) (by decide) (by decide)) (f 10 rfl (by decide) (by decide) (by decide) (by decide)) (f 29 rfl (by decide) (by decide) (by decide) (by decide)) (f 58 rfl (by decide) (by decide) (by decide) (by decide)), t11, by unfold cDyn; rw [t8]; exact ci.2.2.2.2.2.2.2.2.2.2⟩, t1, fun P x => ?_⟩
        refine MA.mono (x_town_ok j z (chF M j z) (x.rxt hj hz e) hf) (fun u O q => ⟨q.1, ?_, ?_⟩)
        · obtain ⟨-, o1, o2, o3, o10, o11, o12, o18, o36, o112, oS⟩ := q
          obtain ⟨p1, p2, p3, p4, p5, p6, p7, p8, p9⟩ := x
          have k : ∀ c, c ≠ 96 → (c < 103 ∨ 108 < c) → c ≠ 112 → O.1 c = P.1 c := o1
          refine ⟨p1.fr (o2 0 (by decide) (by decide) (by decide) (by decide) (by decide) (by decide)) (o2 2 (by decide) (by decide) (by decide) (by decide) (by decide) (by decide)) (by rw [o3]) (by rw [o3]) (k 97 (by decide) (by decide) (by decide)) (f 92 rfl (by decide) (by decide) (by decide) (by decide)) (f 93 rfl (by decide) (by decide) (by decide) (by decide)) (t7 92 rfl (by decide)), p2.fr (k 98 (by decide) (by decide) (by decide)) (k 99 (by decide) (by decide) (by decide)) (f 9 rfl (by decide) (by decide) (by decide) (by decide)) f3, p3.fr (k 101 (by decide) (by decide) (by decide)) (k 102 (by decide) (by decide) (by decide)) (f 16 rfl (by decide) (by decide) (by decide) (by decide)) f12, ⟨o10, o11, o12, fun i hi => (oS i hi).1.trans (t12 i hi).1.symm, fun i hi => ?_, fun i hi => (oS i hi).2.2.1.trans (t12 i hi).2.2.1.symm, fun i hi h1 => ?_⟩, ⟨fun i hi => ?_, o18⟩, p6.fr (k 109 (by decide) (by decide) (by decide)) (k 110 (by decide) (by decide) (by decide)) (f 35 rfl (by decide) (by decide) (by decide) (by decide)) f31, fun i hi => Or.inl ⟨t6 i hi, o112 i hi⟩, ⟨o36, fun e he => absurd he (Nat.not_lt_zero _)⟩, by unfold xDyn; rw [o3]; exact p9⟩
          · have hk : i / 4 < gW (chF M j z) z * gH (chF M j z) z := by omega
            have a1 := (oS (i / 4) hk).2.1 (i % 4) (by omega)
            have a2 := (t12 (i / 4) hk).2.1 (i % 4) (by omega)
            rw [show 4 * (i / 4) + i % 4 = i by omega] at a1 a2
            rw [a1, a2]
          · have h1' := (t12 i hi).1.symm.trans h1
            rw [(oS i hi).2.2.2.1 h1', (t12 i hi).2.2.2 h1']
          · rw [(oS i hi).2.2.2.2, show sQ 0 i = 0 by unfold sQ; rw [Nat.zero_div]]; rfl
        · obtain ⟨-, o1, o2, o3, -⟩ := q
          exact ⟨fun c hc => o1 c (by omega) (by omega) (by omega), fun c _ => by rw [o3], fun d _ => by rw [o3]⟩
      · exact (st_sameE ci (c_town_f j hj z e hz hf) (fun N x => MA.mono (x_town_f j z (chF M j z) (x.rxt hj hz e) hf) (fun _ _ q => ⟨q.1, q.2.x⟩))).b
end STEPS5
