section STEPS3
variable {G : wm_G} {M : wm_M} {w h rn s yr : Nat}
theorem XR.rxt {C N : wm_M} {w h rn s yr r z : Nat} (x : XR C N w h rn s yr) (hr : r < 4) (hz : z ≤ 80) (e : C.1 16 r = nI z) : RX N r z (chF C r z) := by
  refine ⟨hr, x.txtz hr e, hz, fun p => ?_, fun p hp => chF_out hp⟩
  unfold chF
  by_cases q : p < z
  · rw [if_pos q, if_pos q]; exact x.2.2.1.2 r hr z hz e p q
  · rw [if_neg q, if_neg q]
theorem s_fault (ci : CI M w h rn s yr) (r : Int32) : StepI G t_X9_fault t_X10_fault [.int r] M w h rn s yr := by
  rcases wIn_cases r (m := 4) (by decide) with q | ⟨j, hj, rfl⟩
  · exact st_same ci (c_fault_bad r q) (fun N x => x_fault_bad r q)
  · rcases ci.tx j hj with q | ⟨z, hz, e⟩
    · exact st_note (by decide) ci (c_fault_no j hj q) (fun N x => x_fault_no j hj (x.txtn hj q))
    · exact st_sameE ci (c_fault_ok j hj z e hz) (fun N x => MA.mono (x_fault_ok j z (chF M j z) (x.rxt hj hz e)) (fun _ _ q => ⟨q.1, q.2.x⟩))
theorem cp_step {a b i j m z z2 : Nat} (ci : CI M w h rn s yr) (ha : a < 6) (hb : b < 6) (e : M.1 9 a = nI z) (e2 : M.1 9 b = nI z2) (hz : z ≤ 60) (hz2 : z2 ≤ 60) (h3 : i + m ≤ z) (h4 : j + m ≤ z2) {C' : wm_M} {args : List Value} (hc : MD G t_X9_copy (wm_r G 0 :: args) M (some (.int 1)) C') (hm : ∀ N, XR M N w h rn s yr → MD G t_X10_copy (wm_r G 96 :: args) N (some (.int 1)) (wIa (wIa N 100 (wTo (fun k => N.1 99 (60 * a + (i + k))) (N.1 100) m)) 99 (cpF (N.1 99) (60 * a + i) (60 * b + j) m))) (hC : C' = wIa M (3 + b) (va_cpy (M.1 (3 + a)) (M.1 (3 + b)) i j m)) : StepI G t_X9_copy t_X10_copy args M w h rn s yr := by
  subst hC
  have hO : OnR M (wIa M (3 + b) (va_cpy (M.1 (3 + a)) (M.1 (3 + b)) i j m)) := ⟨fun c h1 h2 => wIa_n (by omega), rfl⟩
  have e9 : (wIa M (3 + b) (va_cpy (M.1 (3 + a)) (M.1 (3 + b)) i j m)).1 9 = M.1 9 := wIa_n (by omega)
  refine stp hc.eq (ci.row hO (ci.rw.fr e9)) hO.o (fun N x => MA.mono (hm N x) (fun u O q => ⟨q.1, ?_, ?_⟩))
  · rw [q.2]
    have x2 : XR M (wIa N 100 (wTo (fun k => N.1 99 (60 * a + (i + k))) (N.1 100) m)) w h rn s yr := x.fr ci.r4 (FrX.I rfl (by decide))
    refine x2.row ci.r4 hO (fun c h1 h2 => wIa_n h2) rfl ⟨fun r2 h2 => ?_, fun r2 h2 z3 hz3 e3 i3 hi3 => ?_⟩
    · rw [wIa_n (by decide), wIa_n (by decide), e9]; exact x.2.1.1 r2 h2
    · rw [e9] at e3
      rw [wIa_s]
      have hb3 := x.2.1.2 r2 h2 z3 hz3 e3 i3 hi3
      unfold cpF
      by_cases qq : r2 = b
      · subst qq
        have : z3 = z2 := (nI_eq (by omega) (by omega)).mp (e3.symm.trans e2)
        subst this
        rw [wIa_s]
        by_cases q2 : j ≤ i3 ∧ i3 < j + m
        · rw [if_pos (by omega), pk_cpy_in q2.1 q2.2, show 60 * a + i + (60 * r2 + i3 - (60 * r2 + j)) = 60 * a + (i + (i3 - j)) by omega]
          exact x.2.1.2 a ha z hz e _ (by omega)
        · rw [if_neg (by omega), pk_cpy_out (by omega)]; exact hb3
      · rw [if_neg (by omega), wIa_n (by omega)]; exact hb3
  · rw [q.2]; exact (FrM.I (by decide)).tr (FrM.I (by decide))
theorem s_copy (ci : CI M w h rn s yr) (r i to j n : Int32) : StepI G t_X9_copy t_X10_copy [.int r, .int i, .int to, .int j, .int n] M w h rn s yr := by
  rcases wIn_cases r (m := 6) (by decide) with q | ⟨a, ha, rfl⟩
  · exact st_same ci (c_copy_bad1 r q to i j n) (fun N x => x_copy_bad1 r q to i j n)
  · rcases wIn_cases to (m := 6) (by decide) with q | ⟨b, hb, rfl⟩
    · exact st_same ci (c_copy_bad2 a ha to q i j n) (fun N x => x_copy_bad2 a ha to q i j n)
    · by_cases hn : n < 0
      · exact st_note (by decide) ci (c_copy_neg a b ha hb i j n hn) (fun N x => x_copy_neg a b ha hb i j n hn)
      · rcases ci.rw a ha with q | ⟨z, hz, e⟩
        · exact st_note (by decide) ci (c_copy_no1 a b ha hb i j n hn q) (fun N x => x_copy_no1 a b ha hb i j n hn (x.rown ha q))
        · rcases ci.rw b hb with q | ⟨z2, hz2, e2⟩
          · exact st_note (by decide) ci (c_copy_no2 a b ha hb i j n hn (by rw [e]; exact nI_nem1 (by omega)) q) (fun N x => x_copy_no2 a b ha hb i j n hn z (x.rowz ha e) hz (x.rown hb q))
          · cases h1 : hldB i n z with
            | false => exact st_note (by decide) ci (c_copy_out1 a b ha hb i j n hn z z2 e e2 hz hz2 h1) (fun N x => x_copy_out a b ha hb i j n hn z z2 (x.rowz ha e) (x.rowz hb e2) hz hz2 (Or.inl h1))
            | true =>
              cases h2 : hldB j n z2 with
              | false => exact st_note (by decide) ci (c_copy_out2 a b ha hb i j n hn z z2 e e2 hz hz2 h1 h2) (fun N x => x_copy_out a b ha hb i j n hn z z2 (x.rowz ha e) (x.rowz hb e2) hz hz2 (Or.inr h2))
              | true =>
                have nn : ∀ {i : Int32} {z : Nat}, z ≤ 60 → hldB i n z = true → ∃ k m, k < 2 ^ 31 ∧ m < 2 ^ 31 ∧ i = nI k ∧ n = nI m ∧ k + m ≤ z := fun {i z} hz h => by
                  unfold hldB at h
                  rw [Bool.and_eq_true] at h
                  have hi : ¬ i < 0 := by simpa using h.1
                  have hle := of_decide_eq_true h.2
                  have e1 := sub_toInt (z := z) (i := i) (by omega) hi
                  obtain ⟨k, hk, rfl⟩ := nI_of hi
                  obtain ⟨m, hm, em⟩ := nI_of hn
                  rw [Int32.le_iff_toInt_le, e1, em, nI_toInt hm, nI_toInt hk] at hle
                  exact ⟨k, m, hk, hm, rfl, em, by omega⟩
                obtain ⟨i', m, hi', hm, rfl, rfl, h3⟩ := nn hz h1
                obtain ⟨j', m2, hj', hm2, rfl, em2, h4⟩ := nn hz2 h2
                have : m2 = m := (nI_eq hm2 hm).mp em2.symm
                subst this
                have hc := c_copy_ok (G := G) a b ha hb i' j' m2 z z2 e e2 hz hz2 h3 h4
                refine cp_step ci ha hb e e2 hz hz2 h3 h4 hc (fun N x => x_copy_ok a b ha hb i' j' m2 z z2 (x.rowz ha e) (x.rowz hb e2) hz hz2 h3 h4) rfl
theorem s_lose (ci : CI M w h rn s yr) (n : Int32) : StepI G t_X9_lose t_X10_lose [.int n] M w h rn s yr := by
  have hr4 := ci.r4
  rcases wIn_cases n (m := rn + 1) (by omega) with q | ⟨j, hj, rfl⟩
  · exact st_same ci (c_lose_bad w h rn s yr ci n q) (fun N x => x_lose_bad rn x.eng.1 hr4 n q)
  · have hjr : j ≤ rn := by omega
    have f : ∀ c, c ≠ 54 → (wI M 54 0 (nI j)).1 c = M.1 c := fun c hc => wI_c hc
    have hci : CI (wI M 54 0 (nI j)) w h j s yr := by
      obtain ⟨q1, q2, q3, q4, q5, q6, q7, q8, q9, q10, q11⟩ := ci
      refine ⟨q1.fr (f 17 (by decide)), q2.fr (f 18 (by decide)) (f 19 (by decide)) (f 20 (by decide)), q3.fr (f 0 (by decide)) (f 18 (by decide)), q4.fr (f 9 (by decide)), q5.fr (f 16 (by decide)), q6.fr (f 35 (by decide)) (fun l hl => f _ (by omega)), q7.fr (f 94 (by decide)) (f 95 (by decide)) (f 18 (by decide)), ⟨wI_at, by omega, fun e he => ?_⟩, q9.fr (f 1 (by decide)) (f 10 (by decide)) (f 29 (by decide)) (f 58 (by decide)), q10.fr (f 18 (by decide)) (f 19 (by decide)) (f 35 (by decide)) (fun l hl => f _ (by omega)) (fun l hl => rfl), q11⟩
      obtain ⟨y, st, en, hre⟩ := q8.2.2 e (by omega)
      refine ⟨y, st, en, ?_⟩
      unfold RE; rw [f 55 (by decide), f 56 (by decide), f 57 (by decide), f 64 (by decide)]; exact hre
    refine stp (c_lose_ok w h rn s yr ci j hjr).eq hci (OnlyC.I (by decide)) (fun N x => MA.mono (x_lose_ok rn x.eng.1 hr4 j hjr) (fun u O q => ⟨q.1, ?_, ?_⟩))
    · rw [q.2]
      obtain ⟨q1, q2, q3, q4, q5, q6, q7, q8, q9⟩ := x
      have k : ∀ c, c ≠ 96 → (wI N 96 36 (nI j)).1 c = N.1 c := fun c hc => wI_c hc
      have k6 : ∀ i, i ≠ 36 → (wI N 96 36 (nI j)).1 96 i = N.1 96 i := fun i hi => wI_ne (fun e => hi e.2)
      refine ⟨q1.fr (k6 0 (by decide)) (k6 2 (by decide)) rfl rfl (k 97 (by decide)) (f 92 (by decide)) (f 93 (by decide)) rfl, q2.fr (k 98 (by decide)) (k 99 (by decide)) (f 9 (by decide)) (fun r hr => f _ (by omega)), q3.fr (k 101 (by decide)) (k 102 (by decide)) (f 16 (by decide)) (fun r hr => f _ (by omega)), q4.fr (k6 10 (by decide)) (k6 11 (by decide)) (k6 12 (by decide)) (k 103 (by decide)) (k 104 (by decide)) (k 105 (by decide)) (k 106 (by decide)) (f 18 (by decide)) (f 19 (by decide)) (f 20 (by decide)) (f 21 (by decide)), q5.fr (k 107 (by decide)) (k6 18 (by decide)), q6.fr (k 109 (by decide)) (k 110 (by decide)) (f 35 (by decide)) (fun r hr => f _ (by omega)), q7.fr (k 112 (by decide)) (k 113 (by decide)) (f 94 (by decide)) (f 95 (by decide)), ⟨wI_at, fun e he => ?_⟩, q9⟩
      have := q8.2 e (by omega)
      unfold eS at this ⊢
      rw [k 119 (by decide), f 55 (by decide), f 56 (by decide), f 57 (by decide), f (60 + e) (by omega)]; exact this
    · rw [q.2]; exact FrM.I (by decide)
theorem s_years (ci : CI M w h rn s yr) (set : Int32) : StepI G t_X9_years t_X10_years [.int set] M w h rn s yr := by
  rcases wIn_cases set (m := 16) (by decide) with q | ⟨k, hk, rfl⟩
  · exact st_same ci (c_years_bad set q) (fun N x => x_years_bad set q)
  · rcases nr_cases ci hk with ⟨a, b⟩ | ⟨n, t, hn, a, b, c, d⟩
    · exact st_sameE ci (c_years_no w h rn s yr ci k hk a) (fun N x => MA.mono (x_years_no M w h s x.stn ci.tw x.law ci.lw ci.stn x.now.1 ci.hd k hk b) (fun _ _ q => ⟨q.1, q.2.x⟩))
    · have hc := c_years_ok (G := G) w h rn s yr ci k hk n hn a
      rw [b] at hc
      exact st_tellE ci hc (fun N x => MA.mono (x_years_ok M w h s x.stn ci.tw x.law ci.lw ci.stn x.now.1 ci.hd k hk t n c d) (fun _ _ ⟨q1, P, q2, q3⟩ => ⟨q1, P, q2.x, q3⟩))
theorem bd12 (p : Int32) : (p < 1 ∨ ¬ p ≤ 12) ∨ ∃ k, 1 ≤ k ∧ k ≤ 12 ∧ p = nI k := by
  by_cases h1 : p < 1
  · exact Or.inl (Or.inl h1)
  · by_cases h2 : p ≤ 12
    · right
      have h0 : ¬ p < 0 := fun q => h1 (Int32.lt_trans q (by decide))
      obtain ⟨k, hk, rfl⟩ := nI_of h0
      exact ⟨k, by rcases Nat.eq_zero_or_pos k with q | q; (subst q; exact absurd (by decide) h1); exact q, (nI_leI hk (by decide)).mp h2, rfl⟩
    · exact Or.inl (Or.inr h2)
theorem s_lives (ci : CI M w h rn s yr) (set p : Int32) : StepI G t_X9_lives t_X10_lives [.int set, .int p] M w h rn s yr := by
  rcases wIn_cases set (m := 16) (by decide) with q | ⟨k, hk, rfl⟩
  · exact st_same ci (c_lives_bad1 set p q) (fun N x => x_lives_bad1 set p q)
  · rcases bd12 p with q | ⟨j, h1, h2, rfl⟩
    · exact st_same ci (c_lives_bad2 k hk p q) (fun N x => x_lives_bad2 k hk p q)
    · rcases nr_cases ci hk with ⟨a, b⟩ | ⟨n, t, hn, a, b, c, d⟩
      · exact st_sameE ci (c_lives_no w h rn s yr ci k hk a j h1 h2) (fun N x => MA.mono (x_lives_no M w h s x.stn ci.tw x.law ci.lw ci.stn x.now.1 ci.hd k hk b j h1 h2) (fun _ _ q => ⟨q.1, q.2.x⟩))
      · by_cases h17 : n ≤ 17
        · exact st_fracE ci (c_lives_ok w h rn s yr ci k hk n hn a j h1 h2 h17) (fun N x => MA.mono (x_lives_ok M w h s x.stn ci.tw x.law ci.lw ci.stn x.now.1 ci.hd k hk t n c d j h1 h2 h17) (fun _ _ ⟨q1, P, q2, q3⟩ => ⟨q1, P, q2.x, q3⟩))
        · exact st_sameE ci (c_lives_sp w h rn s yr ci k hk n hn a j h1 h2 (by omega)) (fun N x => MA.mono (x_lives_sp M w h s x.stn ci.tw x.law ci.lw ci.stn x.now.1 ci.hd k hk t n c d j h1 h2 (by omega)) (fun _ _ q => ⟨q.1, q.2.x⟩))
theorem s_share (ci : CI M w h rn s yr) (set : Int32) : StepI G t_X9_share t_X10_share [.int set] M w h rn s yr := by
  rcases wIn_cases set (m := 16) (by decide) with q | ⟨k, hk, rfl⟩
  · exact st_same ci (c_share_bad set q) (fun N x => x_share_bad set q)
  · by_cases h0 : w * h = 0
    · exact st_same ci (c_share_st w h rn s yr ci k hk h0) (fun N x => x_share_st k hk (by rw [x.stn.2.2.1, h0]))
    · have e0 : gCnt M w h 0 = wCnt (fun t => prodB (hadN (M.1 18) (w * h)) t) (4 ^ (w * h)) := by rw [gCnt_eq ci (by decide)]; exact wCnt_cong (fun t _ => gd_0)
      have hc := c_share_ok (G := G) w h rn s yr ci k hk h0
      rw [gCnt_eq ci hk, e0] at hc
      exact st_fracE ci hc (fun N x => MA.mono (x_share_ok M w h s x.stn ci.tw x.law ci.lw ci.stn x.now.1 ci.hd k hk h0) (fun _ _ ⟨q1, P, q2, q3⟩ => ⟨q1, P, q2.x, q3⟩))
theorem ln_had {C : wm_M} {n s t : Nat} (hn : n ≤ 6) (hs : hadS C n s) (ht : hadS C n t) {i : Nat} (hi : i ≤ dst (C.1 18) n s t) : hadS C n (rwS C (lnF (C.1 18) n s t) s i) := hd_rwS hn hs i (fun j hj => ln_mt hn hs ht (by omega))
theorem s_lost (ci : CI M w h rn s yr) (set : Int32) : StepI G t_X9_lost t_X10_lost [.int set] M w h rn s yr := by
  have hn6 := ci.n6
  rcases wIn_cases set (m := 16) (by decide) with q | ⟨k, hk, rfl⟩
  · exact st_same ci (c_lost_bad set q) (fun N x => x_lost_bad set q)
  · rcases nr_cases ci hk with ⟨a, b⟩ | ⟨n, t, hn, a, b, c, d⟩
    · exact st_sameE ci (c_lost_no w h rn s yr ci k hk a) (fun N x => MA.mono (x_lost_no M w h s x.stn ci.tw x.law ci.lw ci.stn x.now.1 ci.hd k hk b) (fun _ _ q => ⟨q.1, q.2.x⟩))
    · refine st_tellE ci (c_lost_ok w h rn s yr ci k hk n hn a t b c.1 d) (fun N x => MA.mono (x_lost_ok M w h s x.stn ci.tw x.law ci.lw ci.stn x.now.1 ci.hd k hk t n c d) (fun _ _ ⟨q1, P, q2, q3⟩ => ⟨?_, P, q2, ?_⟩))
      · rw [q1]; refine congrArg (fun z => some (Value.int (nI z))) (wBits_cong (fun l hl => ?_))
        unfold stB; rw [sb_lv ci hl ci.hd, sb_lv ci hl (ln_had hn6 ci.hd c.1 (Nat.le_of_eq d.symm))]
      · rw [q3]; refine congrArg (fun z => xTell P (nI z)) (wBits_cong (fun l hl => ?_))
        unfold alX alB; refine wAll_cong (fun j hj => ?_)
        unfold stB; rw [sb_lv ci hl (ln_had hn6 ci.hd c.1 (by omega))]
end STEPS3
