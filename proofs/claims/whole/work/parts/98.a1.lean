section STEPS1
variable {G : wm_G} {M : wm_M} {w h rn s yr : Nat}
theorem s_row (ci : CI M w h rn s yr) (r n : Int32) : StepI G t_X9_row t_X10_row [.int r, .int n] M w h rn s yr := by
  have hL := ci.2.2.2.2.2.2.2.2.1.1
  rcases wIn_cases r (m := 6) (by decide) with q | ⟨j, hj, rfl⟩
  · exact st_same ci (c_row_bad r q n) (fun N x => x_row_bad r q n)
  · by_cases q1 : n ≤ nI 60
    · by_cases q2 : n < 0
      · exact st_note (by decide) ci (c_row_neg j hj n hL q2) (fun N x => x_row_neg j hj n q2)
      · obtain ⟨k, hk, rfl⟩ := nI_of q2
        have hk6 : k ≤ 60 := (nI_leI hk (by decide)).mp q1
        have e9 : ∀ r2, (wIa (wI M 9 j (nI k)) (3 + j) (wFill (M.1 (3 + j)) 0 k 0)).1 9 r2 = if r2 = j then nI k else M.1 9 r2 := fun r2 => by
          rw [wIa_n (by omega)]; unfold wI; rw [wIa_s, upd_if]
        have hO : OnR M (wIa (wI M 9 j (nI k)) (3 + j) (wFill (M.1 (3 + j)) 0 k 0)) := ⟨fun c h1 h2 => by rw [wIa_n (by omega), wI_c h1], rfl⟩
        refine stp (c_row_ok j hj k hL hk6).eq (ci.row hO (cRow_set ci.2.2.2.1 hk6 e9)) hO.o (fun N x => MA.mono (x_row_ok j hj k hk6) (fun u O q => ⟨q.1, ?_, ?_⟩))
        · rw [q.2]
          refine x.row ci.r4 hO (fun c h1 h2 => by rw [wIa_n h2, wI_c h1]) rfl (xRow_set (f := fun _ => 0) x.2.1 hj hk6 e9 (fun r2 h2 h3 => by rw [wIa_n (by omega), wI_c (by omega)]) (fun i hi => by rw [wIa_s, wFill_in (Nat.zero_le _) hi]) (fun r2 => by rw [wIa_n (by decide)]; unfold wI; rw [wIa_s, upd_if]) (fun r2 h2 h3 i hi => by rw [wIa_s, wFill_out (by omega)]) (fun i hi => by rw [wIa_s, wFill_in (by omega) (by omega)]))
        · rw [q.2]; exact (FrM.I (by decide)).tr (FrM.I (by decide))
    · exact st_same ci (c_row_big j hj n hL q1) (fun N x => x_row_big j hj n q1)
theorem s_text (ci : CI M w h rn s yr) (r n : Int32) : StepI G t_X9_text t_X10_text [.int r, .int n] M w h rn s yr := by
  have hL := ci.2.2.2.2.2.2.2.2.1.2.1
  rcases wIn_cases r (m := 4) (by decide) with q | ⟨j, hj, rfl⟩
  · exact st_same ci (c_text_bad r q n) (fun N x => x_text_bad r q n)
  · by_cases q1 : n ≤ nI 80
    · by_cases q2 : n < 0
      · exact st_note (by decide) ci (c_text_neg j hj n hL q2) (fun N x => x_text_neg j hj n q2)
      · obtain ⟨k, hk, rfl⟩ := nI_of q2
        have hk6 : k ≤ 80 := (nI_leI hk (by decide)).mp q1
        have e9 : ∀ r2, (wIa (wI M 16 j (nI k)) (12 + j) (wFill (M.1 (12 + j)) 0 k 32)).1 16 r2 = if r2 = j then nI k else M.1 16 r2 := fun r2 => by
          rw [wIa_n (by omega)]; unfold wI; rw [wIa_s, upd_if]
        have hO : OnX M (wIa (wI M 16 j (nI k)) (12 + j) (wFill (M.1 (12 + j)) 0 k 32)) := ⟨fun c h1 => by rw [wIa_n (by omega), wI_c (by omega)], rfl⟩
        refine stp (c_text_ok j hj k hL hk6).eq (ci.txt hO (fun r2 h2 => by rw [e9]; split; (exact Or.inr ⟨k, hk6, rfl⟩); exact ci.2.2.2.2.1 r2 h2)) hO.o (fun N x => MA.mono (x_text_ok j hj k hk6) (fun u O q => ⟨q.1, ?_, ?_⟩))
        · rw [q.2]
          refine x.txt ci.r4 hO (fun c h1 h2 => by rw [wIa_n h2, wI_c h1]) rfl ⟨fun r2 h2 => ?_, fun r2 h2 z hz e i hi => ?_⟩
          · rw [e9, wIa_n (by decide)]; unfold wI; rw [wIa_s, upd_if]; split
            · rfl
            · exact x.2.2.1.1 r2 h2
          · by_cases qq : r2 = j
            · subst qq
              rw [e9, if_pos rfl] at e
              have : k = z := (nI_eq (by omega) (by omega)).mp e
              subst this
              rw [wIa_s, wFill_in (by omega) (by omega), wIa_s, wFill_in (Nat.zero_le _) hi]
            · rw [e9, if_neg qq] at e
              rw [wIa_s, wFill_out (by omega), wIa_n (by omega), wI_c (by omega)]
              exact x.2.2.1.2 r2 h2 z hz e i hi
        · rw [q.2]; exact (FrM.I (by decide)).tr (FrM.I (by decide))
    · exact st_same ci (c_text_big j hj n hL q1) (fun N x => x_text_big j hj n q1)
theorem s_lay (ci : CI M w h rn s yr) (r i v : Int32) : StepI G t_X9_lay t_X10_lay [.int r, .int i, .int v] M w h rn s yr := by
  rcases wIn_cases r (m := 6) (by decide) with q | ⟨j, hj, rfl⟩
  · exact st_same ci (c_lay_bad r q i v) (fun N x => x_lay_bad r q i v)
  · rcases ci.2.2.2.1 j hj with q | ⟨z, hz, e⟩
    · exact st_note (by decide) ci (c_lay_no j hj q i v) (fun N x => x_lay_no j hj (x.rown hj q) i v)
    · rcases wIn_cases i (m := z) (by omega) with q | ⟨k, hk, rfl⟩
      · exact st_note (by decide) ci (c_lay_out j hj z e hz i q v) (fun N x => x_lay_out j hj z (x.rowz hj e) hz i q v)
      · have hO : OnR (tTell M (M.1 (3 + j) k)) (wI (tTell M (M.1 (3 + j) k)) (3 + j) k v) := ⟨fun c h1 h2 => by rw [wI_c (by omega)], rfl⟩
        have e9 : (wI (tTell M (M.1 (3 + j) k)) (3 + j) k v).1 9 = M.1 9 := by rw [wI_c (by omega)]; exact wI_c (by decide)
        refine stp (c_lay_ok j hj z e hz k hk v).eq (ci.tell.row hO (ci.2.2.2.1.fr e9)) (OnlyC.tell.tr hO.o) (fun N x => MA.mono (x_lay_ok j hj z (x.rowz hj e) hz k hk v) (fun u O q => ⟨q.1, ?_, ?_⟩))
        · rw [q.2]
          have ew : N.1 99 (60 * j + k) = M.1 (3 + j) k := x.2.1.2 j hj z hz e k hk
          rw [ew]
          have e1 : xTell (wI N 99 (60 * j + k) v) (M.1 (3 + j) k) = wI (xTell N (M.1 (3 + j) k)) 99 (60 * j + k) v := by
            unfold xTell wI; rw [wIa_n (by decide), wIa_n (by decide)]; exact wIa_comm (by decide)
          rw [e1]
          refine (x.tell ci.r4).row ci.r4 hO (fun c h1 h2 => by rw [wI_c h2]) rfl ⟨fun r2 h2 => ?_, fun r2 h2 z2 hz2 e2 i2 hi2 => ?_⟩
          · rw [wI_c (by decide), e9]; show (wI N 96 2 _).1 98 r2 = _; rw [wI_c (by decide)]; exact x.2.1.1 r2 h2
          · rw [e9] at e2
            have hb := x.2.1.2 r2 h2 z2 hz2 e2 i2 hi2
            by_cases qq : r2 = j ∧ i2 = k
            · rw [qq.1, qq.2, wI_at, wI_at]
            · rw [wI_ne (fun c => qq (by omega)), wI_ne (fun c => qq (by omega))]
              show (wI N 96 2 _).1 99 _ = (wI M 92 0 _).1 _ _
              rw [wI_c (by decide), wI_c (by omega)]; exact hb
        · rw [q.2]; exact (FrM.I (by decide)).tr FrM.tell
theorem s_at (ci : CI M w h rn s yr) (r i : Int32) : StepI G t_X9_at t_X10_at [.int r, .int i] M w h rn s yr := by
  rcases wIn_cases r (m := 6) (by decide) with q | ⟨j, hj, rfl⟩
  · exact st_same ci (c_at_bad r q i) (fun N x => x_at_bad r q i)
  · rcases ci.2.2.2.1 j hj with q | ⟨z, hz, e⟩
    · exact st_note (by decide) ci (c_at_no j hj q i) (fun N x => x_at_no j hj (x.rown hj q) i)
    · rcases wIn_cases i (m := z) (by omega) with q | ⟨k, hk, rfl⟩
      · exact st_note (by decide) ci (c_at_out j hj z e hz i q) (fun N x => x_at_out j hj z (x.rowz hj e) hz i q)
      · exact st_tell ci (c_at_ok j hj z e hz k hk) (fun N x => by rw [← x.2.1.2 j hj z hz e k hk]; exact x_at_ok j hj z (x.rowz hj e) hz k hk)
theorem s_tear (ci : CI M w h rn s yr) (r : Int32) : StepI G t_X9_tear t_X10_tear [.int r] M w h rn s yr := by
  rcases wIn_cases r (m := 6) (by decide) with q | ⟨j, hj, rfl⟩
  · exact st_same ci (c_tear_bad r q) (fun N x => x_tear_bad r q)
  · rcases ci.2.2.2.1 j hj with q | ⟨z, hz, e⟩
    · exact st_note (by decide) ci (c_tear_no j hj q) (fun N x => x_tear_no j hj (x.rown hj q))
    · have hO : OnR M (wI M 9 j (-1)) := ⟨fun c h1 h2 => wI_c h1, rfl⟩
      have e9 : ∀ r2, (wI M 9 j (-1)).1 9 r2 = if r2 = j then -1 else M.1 9 r2 := fun r2 => by unfold wI; rw [wIa_s, upd_if]
      refine stp (c_tear_ok j hj (by rw [e]; exact nI_nem1 (by omega))).eq (ci.row hO (fun r2 h2 => by rw [e9]; split; (exact Or.inl rfl); exact ci.2.2.2.1 r2 h2)) hO.o (fun N x => MA.mono (x_tear_ok j hj z (x.rowz hj e) hz) (fun u O q => ⟨q.1, ?_, ?_⟩))
      · rw [q.2]
        refine x.row ci.r4 hO (fun c h1 h2 => wI_c h1) rfl ⟨fun r2 h2 => ?_, fun r2 h2 z2 hz2 e2 i2 hi2 => ?_⟩
        · rw [e9]; unfold wI; rw [wIa_s, upd_if]; split
          · rfl
          · exact x.2.1.1 r2 h2
        · rw [e9] at e2
          by_cases qq : r2 = j
          · rw [if_pos qq] at e2; exact absurd e2.symm (nI_nem1 (by omega))
          · rw [if_neg qq] at e2
            rw [wI_c (by decide), wI_c (by omega)]; exact x.2.1.2 r2 h2 z2 hz2 e2 i2 hi2
      · rw [q.2]; exact FrM.I (by decide)
theorem s_mean (ci : CI M w h rn s yr) (r : Int32) : StepI G t_X9_mean t_X10_mean [.int r] M w h rn s yr := by
  rcases wIn_cases r (m := 6) (by decide) with q | ⟨j, hj, rfl⟩
  · exact st_same ci (c_mean_bad r q) (fun N x => x_mean_bad r q)
  · rcases ci.2.2.2.1 j hj with q | ⟨z, hz, e⟩
    · exact st_note (by decide) ci (c_mean_no j hj q) (fun N x => x_mean_no j hj (x.rown hj q))
    · rcases Nat.eq_zero_or_pos z with q | q
      · subst q; exact st_note (by decide) ci (c_mean_0 j hj e) (fun N x => x_mean_0 j hj (x.rowz hj e))
      · exact st_tell ci (c_mean_ok j hj z e hz q) (fun N x => by
          rw [← mSum_cong (fun i hi => x.2.1.2 j hj z hz e i hi)]; exact x_mean_ok j hj z (x.rowz hj e) hz q)
theorem s_put (ci : CI M w h rn s yr) (r i v : Int32) : StepI G t_X9_put t_X10_put [.int r, .int i, .int v] M w h rn s yr := by
  rcases wIn_cases r (m := 4) (by decide) with q | ⟨j, hj, rfl⟩
  · exact st_same ci (c_put_bad r q i v) (fun N x => x_put_bad r q i v)
  · rcases ci.2.2.2.2.1 j hj with q | ⟨z, hz, e⟩
    · exact st_note (by decide) ci (c_put_no j hj q i v) (fun N x => x_put_no j hj (x.txtn hj q) i v)
    · rcases wIn_cases i (m := z) (by omega) with q | ⟨k, hk, rfl⟩
      · exact st_note (by decide) ci (c_put_out j hj z e hz i q v) (fun N x => x_put_out j hj z (x.txtz hj e) hz i q v)
      · have hO : OnX M (wI M (12 + j) k v.toInt8.toInt32) := ⟨fun c h1 => wI_c (by omega), rfl⟩
        have e9 : (wI M (12 + j) k v.toInt8.toInt32).1 16 = M.1 16 := wI_c (by omega)
        refine stp (c_put_ok j hj z e hz k hk v).eq (ci.txt hO (ci.2.2.2.2.1.fr e9)) hO.o (fun N x => MA.mono (x_put_ok j hj z (x.txtz hj e) hz k hk v) (fun u O q => ⟨?_, ?_, ?_⟩))
        · rw [q.1, x.2.2.1.2 j hj z hz e k hk, Int32.add_comm]
        · rw [q.2]
          refine x.txt ci.r4 hO (fun c h1 h2 => wI_c h2) rfl ⟨fun r2 h2 => ?_, fun r2 h2 z2 hz2 e2 i2 hi2 => ?_⟩
          · rw [wI_c (by decide), e9]; exact x.2.2.1.1 r2 h2
          · rw [e9] at e2
            have hb := x.2.2.1.2 r2 h2 z2 hz2 e2 i2 hi2
            by_cases qq : r2 = j ∧ i2 = k
            · rw [qq.1, qq.2, wI_at, wI_at]
            · rw [wI_ne (fun c => qq (by omega)), wI_ne (fun c => qq (by omega))]; exact hb
        · rw [q.2]; exact FrM.I (by decide)
theorem s_finding (ci : CI M w h rn s yr) : StepI G t_X9_finding t_X10_finding [] M w h rn s yr := st_same ci c_finding (fun N x => by rw [← x.1.1]; exact x_finding)
theorem s_asked (ci : CI M w h rn s yr) : StepI G t_X9_asked t_X10_asked [] M w h rn s yr := st_same ci c_asked (fun N x => by rw [← x.1.2.2.1]; exact x_asked)
theorem s_upper (ci : CI M w h rn s yr) : StepL G t_X9_upper t_X10_upper [] M w h rn s yr := stL_same ci c_upper (fun N x => by rw [← x.1.2.2.2.1]; exact x_upper)
theorem s_lower (ci : CI M w h rn s yr) : StepL G t_X9_lower t_X10_lower [] M w h rn s yr := stL_same ci c_lower (fun N x => by rw [← x.1.2.2.2.2]; exact x_lower)
theorem bd15 (f : Int32) : (f < 1 ∨ ¬ f ≤ 5) ∨ ∃ k, 1 ≤ k ∧ k ≤ 5 ∧ f = nI k := by
  by_cases h1 : f < 1
  · exact Or.inl (Or.inl h1)
  · by_cases h2 : f ≤ 5
    · right
      have h0 : ¬ f < 0 := fun q => h1 (Int32.lt_trans q (by decide))
      obtain ⟨k, hk, rfl⟩ := nI_of h0
      exact ⟨k, by rcases Nat.eq_zero_or_pos k with q | q; (subst q; exact absurd (by decide) h1); exact q, (nI_leI hk (by decide)).mp h2, rfl⟩
    · exact Or.inl (Or.inr h2)
theorem s_findings (ci : CI M w h rn s yr) (f : Int32) : StepI G t_X9_findings t_X10_findings [.int f] M w h rn s yr := by
  rcases bd15 f with q | ⟨k, h1, h5, rfl⟩
  · exact st_same ci (c_findings_bad f q) (fun N x => x_findings_bad f q)
  · exact st_same ci (c_findings_ok k h1 h5) (fun N x => by rw [← x.1.2.1 k (by omega)]; exact x_findings_ok k h1 h5)
end STEPS1
