theorem c_share_bad {G : wm_G} {M : wm_M} (set : Int32) (hset : wIn set 16 = false) : MD G t_X9_share [wm_r G (0), .int (set)] (M) (some (.int (-1))) (M) := by
  refine wm_met (by decide) (Nat.le_of_ble_eq_true rfl) ?_
  show WA G t_X9_share (fun v_ N_ => v_ = some (.int (-1)) ∧ N_ = M) 0 [(0, wm_r G (0)), (1, .int (set))] [] (M)
  refine wa_iload_n dX9_share_0 rfl 1 rfl ?_
  refine wa_cSi (m_isLS set) vX9_isLawSet iX9_share_1 rfl rfl (Nat.le_of_ble_eq_true rfl) ⟨by decide, by decide⟩ ?_
  refine wa_eqi (y := (0)) (by rw [hset]; rfl) ?_
  refine wa_if_ne 9 dX9_share_4 (by decide) (fun c_4 => absurd c_4 (by decide)) (fun c_4 => ?_)
  refine wa_iconst (-1) dX9_share_7 (by decide) ?_
  exact wa_iret dX9_share_8 rfl ⟨congrArg (fun z => some (Value.int z)) (rfl), rfl⟩

theorem c_share_st {G : wm_G} {M : wm_M} (w h rn s yr : Nat) (ci : CI M w h rn s yr) (set : Nat) (hset : set < 16) (hn : w * h = 0) : MD G t_X9_share [wm_r G (0), .int (nI (set))] (M) (some (.int (-4))) (M) := by
  obtain ⟨⟨hW, hwh⟩, hSt, ⟨h12, h13, hyr, hs4, hsh⟩, hRo, hTx, hLw, hKp, hRO, ⟨hL1, hL10, hL29, hL58⟩, hSe, hDy⟩ := id ci
  have hn6 := TW_n hW
  have hs : s < 4096 := Nat.lt_of_lt_of_le hs4 (p4_le hn6)
  have hw3 := hW.2.2.1
  have hh2 := hW.2.2.2
  refine wm_met (by decide) (Nat.le_of_ble_eq_true rfl) ?_
  show WA G t_X9_share (fun v_ N_ => v_ = some (.int (-4)) ∧ N_ = M) 0 [(0, wm_r G (0)), (1, .int (nI (set)))] [] (M)
  refine wa_iload_n dX9_share_0 rfl 1 rfl ?_
  refine wa_cSi (m_isLS (nI set)) vX9_isLawSet iX9_share_1 rfl rfl (Nat.le_of_ble_eq_true rfl) ⟨by decide, by decide⟩ ?_
  refine wa_eqi (y := (1)) (by rw [wIn_nI (by omega), decide_eq_true hset]; rfl) ?_
  refine wa_if_ne 9 dX9_share_4 (by decide) (fun c_4 => ?_) (fun c_4 => absurd c_4 (by decide))
  refine wa_aload_n dX9_share_9 rfl 0 rfl ?_
  refine wa_getr gX9_share_10 (rfl) rfl ?_
  refine wa_cVi (m_number 17 w h SO_17 hW.1 hW.2.1) vX4_number iX9_share_13 (rfl) rfl rfl rfl (Nat.le_of_ble_eq_true rfl) ⟨by decide, by decide⟩ ?_
  refine wa_if_neN (a := w * h) 22 dX9_share_16 (by decide) (by omega) (fun c_16 => absurd hn c_16) (fun c_16 => ?_)
  refine wa_bipush (-4) dX9_share_19 (by decide) ?_
  exact wa_iret dX9_share_21 rfl ⟨congrArg (fun z => some (Value.int z)) (rfl), rfl⟩

theorem c_share_ok {G : wm_G} {M : wm_M} (w h rn s yr : Nat) (ci : CI M w h rn s yr) (set : Nat) (hset : set < 16) (hn : ¬ w * h = 0) : MA G t_X9_share [wm_r G (0), .int (nI (set))] (M) (fun v N => v = some (.int (nI (gCnt M w h set))) ∧ EqR (tFrac M (gCnt M w h set) (gCnt M w h 0)) N) := by
  obtain ⟨⟨hW, hwh⟩, hSt, ⟨h12, h13, hyr, hs4, hsh⟩, hRo, hTx, hLw, hKp, hRO, ⟨hL1, hL10, hL29, hL58⟩, hSe, hDy⟩ := id ci
  have hn6 := TW_n hW
  have hs : s < 4096 := Nat.lt_of_lt_of_le hs4 (p4_le hn6)
  have hw3 := hW.2.2.1
  have hh2 := hW.2.2.2
  have hg4 := gCnt_le M w h set
  have hg5 := gCnt_le M w h 0
  have hg0 := gCnt_pos (M := M) hn6
  refine wm_met (by decide) (Nat.le_of_ble_eq_true rfl) ?_
  show WA G t_X9_share (fun v N => v = some (.int (nI (gCnt M w h set))) ∧ EqR (tFrac M (gCnt M w h set) (gCnt M w h 0)) N) 0 [(0, wm_r G (0)), (1, .int (nI (set)))] [] (M)
  refine wa_iload_n dX9_share_0 rfl 1 rfl ?_
  refine wa_cSi (m_isLS (nI set)) vX9_isLawSet iX9_share_1 rfl rfl (Nat.le_of_ble_eq_true rfl) ⟨by decide, by decide⟩ ?_
  refine wa_eqi (y := (1)) (by rw [wIn_nI (by omega), decide_eq_true hset]; rfl) ?_
  refine wa_if_ne 9 dX9_share_4 (by decide) (fun c_4 => ?_) (fun c_4 => absurd c_4 (by decide))
  refine wa_aload_n dX9_share_9 rfl 0 rfl ?_
  refine wa_getr gX9_share_10 (rfl) rfl ?_
  refine wa_cVi (m_number 17 w h SO_17 hW.1 hW.2.1) vX4_number iX9_share_13 (rfl) rfl rfl rfl (Nat.le_of_ble_eq_true rfl) ⟨by decide, by decide⟩ ?_
  refine wa_if_neN (a := w * h) 22 dX9_share_16 (by decide) (by omega) (fun c_16 => ?_) (fun c_16 => absurd c_16 hn)
  refine wa_aload_n dX9_share_22 rfl 0 rfl ?_
  refine wa_getr gX9_share_23 (rfl) rfl ?_
  refine wa_iconst (0) dX9_share_26 (by decide) ?_
  refine wa_callV (m_goalOf w h hW 0 (by decide)) vX8_goalOf iX9_share_27 (rfl) rfl rfl rfl (Nat.le_of_ble_eq_true rfl) ⟨by decide, by decide⟩ (fun v_ N1 h_ => ?_)
  obtain ⟨rfl, hF1, hg1⟩ := h_
  show WA G t_X9_share (fun v N => v = some (.int (nI (gCnt M w h set))) ∧ EqR (tFrac M (gCnt M w h set) (gCnt M w h 0)) N) 30 [(0, wm_r G (0)), (1, .int (nI (set)))] [wm_r G (47)] (N1)
  refine wa_cVi (m_ssize 47 SS_47) vX3_size iX9_share_30 (rfl) rfl rfl rfl (Nat.le_of_ble_eq_true rfl) ⟨by decide, by decide⟩ ?_
  refine wa_eqi (y := (nI (gCnt M w h 0))) (congrArg nI (ss_cnt hg1)) ?_
  refine wa_istore_n [(2, .int (nI (gCnt M w h 0))), (0, wm_r G (0)), (1, .int (nI (set)))] dX9_share_33 rfl (by decide) rfl ?_
  refine wa_aload_n dX9_share_34 rfl 1 rfl ?_
  refine wa_getr gX9_share_35 (rfl) rfl ?_
  refine wa_iload_n dX9_share_38 rfl 2 rfl ?_
  refine wa_callV (m_goalOf w h (hW.fr (hF1.1 17 (nin1 (by decide)))) set hset) vX8_goalOf iX9_share_39 (rfl) rfl rfl rfl (Nat.le_of_ble_eq_true rfl) ⟨by decide, by decide⟩ (fun v_ N2 h_ => ?_)
  obtain ⟨rfl, hF2, hg2⟩ := h_
  show WA G t_X9_share (fun v N => v = some (.int (nI (gCnt M w h set))) ∧ EqR (tFrac M (gCnt M w h set) (gCnt M w h 0)) N) 42 [(2, .int (nI (gCnt M w h 0))), (0, wm_r G (0)), (1, .int (nI (set)))] [wm_r G (47)] (N2)
  refine wa_cVi (m_ssize 47 SS_47) vX3_size iX9_share_42 (rfl) rfl rfl rfl (Nat.le_of_ble_eq_true rfl) ⟨by decide, by decide⟩ ?_
  refine wa_eqi (y := (nI (gCnt M w h set))) (congrArg nI (ss_cnt (fun s hs => (hg2 s hs).trans (goalB_fr (hF1.1 18 (nin1 (by decide))) (fun l hl => hF1.2.1 _ (nin1 (by omega))))))) ?_
  refine wa_istore_n [(3, .int (nI (gCnt M w h set))), (2, .int (nI (gCnt M w h 0))), (0, wm_r G (0)), (1, .int (nI (set)))] dX9_share_45 rfl (by decide) rfl ?_
  refine wa_aload_n dX9_share_46 rfl 2 rfl ?_
  refine wa_getr gX9_share_47 (rfl) rfl ?_
  refine wa_iload_n dX9_share_50 rfl 0 rfl ?_
  refine wa_i2l dX9_share_51 ?_
  refine wa_eql (y := lN (gCnt M w h set)) (nI_l (by omega)) ?_
  refine wa_iload_n dX9_share_52 rfl 1 rfl ?_
  refine wa_i2l dX9_share_53 ?_
  refine wa_eql (y := lN (gCnt M w h 0)) (nI_l (by omega)) ?_
  refine wa_cVv (m_tfrac (gCnt M w h set) (gCnt M w h 0) (by omega) (by omega) hg0) vX6_fraction iX9_share_54 (rfl) rfl rfl rfl (Nat.le_of_ble_eq_true rfl) ⟨by decide, by decide⟩ ?_
  refine wa_iload_n dX9_share_57 rfl 0 rfl ?_
  refine wa_iret dX9_share_58 rfl ?_
  exact ⟨rfl, (EqR.want ((hF1.tr hF2).mono (by simp) (by simp))).frac⟩

theorem c_tog {G : wm_G} {M : wm_M} (w h rn s yr : Nat) (ci : CI M w h rn s yr) : MA G t_X9_together [wm_r G (0)] (M) (fun v N => v = some (.int (nI (tgS (tgP M w h) 16).1)) ∧ EqR (tTell M (nI (tgS (tgP M w h) 16).2)) N) := by
  obtain ⟨⟨hW, hwh⟩, hSt, ⟨h12, h13, hyr, hs4, hsh⟩, hRo, hTx, hLw, hKp, hRO, ⟨hL1, hL10, hL29, hL58⟩, hSe, hDy⟩ := id ci
  have hn6 := TW_n hW
  have hs : s < 4096 := Nat.lt_of_lt_of_le hs4 (p4_le hn6)
  have hw3 := hW.2.2.1
  have hh2 := hW.2.2.2
  refine wm_met (by decide) (Nat.le_of_ble_eq_true rfl) ?_
  show WA G t_X9_together (fun v N => v = some (.int (nI (tgS (tgP M w h) 16).1)) ∧ EqR (tTell M (nI (tgS (tgP M w h) 16).2)) N) 0 [(0, wm_r G (0))] [] (M)
  refine wa_iconst (0) dX9_together_0 (by decide) ?_
  refine wa_istore_n [(1, .int (0)), (0, wm_r G (0))] dX9_together_1 rfl (by decide) rfl ?_
  refine wa_iconst (0) dX9_together_2 (by decide) ?_
  refine wa_istore_n [(2, .int (0)), (1, .int (0)), (0, wm_r G (0))] dX9_together_3 rfl (by decide) rfl ?_
  refine wa_iconst (1) dX9_together_4 (by decide) ?_
  refine wa_istore_n [(3, .int (1)), (2, .int (0)), (1, .int (0)), (0, wm_r G (0))] dX9_together_5 rfl (by decide) rfl ?_
  have L_6 : ∀ (n_ : Nat) (i : Nat) (N : wm_M), (16 - i) < n_ → (1 ≤ i) → (i ≤ 16) → (Fr [53] [48] M N) → WA G t_X9_together (fun v N => v = some (.int (nI (tgS (tgP M w h) 16).1)) ∧ EqR (tTell M (nI (tgS (tgP M w h) 16).2)) N) 6 [(3, .int (nI (i))), (1, .int (nI ((tgS (tgP M w h) i).1))), (2, .int (nI ((tgS (tgP M w h) i).2))), (0, wm_r G (0))] [] (N) := by
    intro n_
    induction n_ with
    | zero => intro i N h_; exact absurd h_ (Nat.not_lt_zero _)
    | succ n_ ih_6 =>
      intro i N h_ hi1 hi hF
      refine wa_iload_n dX9_together_6 rfl 0 rfl ?_
      refine wa_bipush (16) dX9_together_7 (by decide) ?_
      refine wa_icmp_geN (a := i) (b := 16) 49 dX9_together_9 (by decide) (by omega) (by omega) (fun c_9 => ?_) (fun c_9 => ?_)
      · refine wa_aload_n dX9_together_49 rfl 3 rfl ?_
        refine wa_getr gX9_together_50 (rfl) rfl ?_
        refine wa_iload_n dX9_together_53 rfl 2 rfl ?_
        refine wa_puti gX9_together_54 (rfl) rfl ?_
        refine wa_iload_n dX9_together_57 rfl 1 rfl ?_
        refine wa_iret dX9_together_58 rfl ?_
        exact ⟨by rw [show i = 16 by omega], by rw [show i = 16 by omega]; exact (EqR.want (hF.mono (by simp) (by simp))).tell⟩
      · refine wa_iload_n dX9_together_12 rfl 0 rfl ?_
        refine wa_cSi (m_bitCountI i (by omega)) vJ6_bitCount_0f7a4 iX9_together_13 rfl rfl (Nat.le_of_ble_eq_true rfl) ⟨by decide, by decide⟩ ?_
        refine wa_istore [(4, .int (nI (pcN i))), (3, .int (nI (i))), (1, .int (nI ((tgS (tgP M w h) i).1))), (2, .int (nI ((tgS (tgP M w h) i).2))), (0, wm_r G (0))] dX9_together_16 (by decide) rfl ?_
        refine wa_iload dX9_together_18 0 rfl ?_
        refine wa_iload_n dX9_together_20 rfl 2 rfl ?_
        refine wa_icmp_leN (a := pcN i) (b := (tgS (tgP M w h) i).1) 43 dX9_together_21 (by decide) (by have := pcN_le i; omega) (by have := tgS_le (tgP M w h) i; omega) (fun c_21 => ?_) (fun c_21 => ?_)
        · have htg := tgS_f1 (P := tgP M w h) (i := i) (by omega)
          refine wa_iinc ((nI (i + 1))) [(3, .int (nI (i + 1))), (4, .int (nI (pcN i))), (1, .int (nI ((tgS (tgP M w h) i).1))), (2, .int (nI ((tgS (tgP M w h) i).2))), (0, wm_r G (0))] dX9_together_43 1 rfl (nI_inc _) (by decide) rfl ?_
          refine wa_goto 6 dX9_together_46 (by decide) ?_
          refine wa_sub [0, 2, 3, 4] rfl ?_
          first | rw [← htg] | rw [show pcN i = (tgS (tgP M w h) (i + 1)).1 by rw [htg], show Value.int (nI i) = Value.int (nI (tgS (tgP M w h) (i + 1)).2) by rw [htg]]
          exact ih_6 (i + 1) _ (by omega) (by omega) (by omega) hF
        · refine wa_aload_n dX9_together_24 rfl 4 rfl ?_
          refine wa_getr gX9_together_25 (rfl) rfl ?_
          refine wa_iload_n dX9_together_28 rfl 1 rfl ?_
          refine wa_callV (m_goalOf w h (hW.fr (hF.1 17 (nin1 (by decide)))) i (by omega)) vX8_goalOf iX9_together_29 (rfl) rfl rfl rfl (Nat.le_of_ble_eq_true rfl) ⟨by decide, by decide⟩ (fun v_ N2 h_ => ?_)
          obtain ⟨rfl, hF2, hg⟩ := h_
          show WA G t_X9_together (fun v N => v = some (.int (nI (tgS (tgP M w h) 16).1)) ∧ EqR (tTell M (nI (tgS (tgP M w h) 16).2)) N) 32 [(4, .int (nI (pcN i))), (3, .int (nI (i))), (1, .int (nI ((tgS (tgP M w h) i).1))), (2, .int (nI ((tgS (tgP M w h) i).2))), (0, wm_r G (0))] [wm_r G (47)] (N2)
          refine wa_cVi (m_isEmpty 47 SS_47) vX3_isEmpty iX9_together_32 (rfl) rfl rfl rfl (Nat.le_of_ble_eq_true rfl) ⟨by decide, by decide⟩ ?_
          have hP : tgP M w h i = !(wAll (fun s => !sb (N2.2.1 (47 + 1)) s) 4096) := by
            unfold tgP wAny
            exact congrArg Bool.not (wAll_cong (fun s hs => by rw [hg s hs, goalB_fr (hF.1 18 (nin1 (by decide))) (fun l hl => hF.2.1 _ (nin1 (by omega)))]))
          refine wa_if_neB 43 dX9_together_35 (by decide) (fun (c_35 : (wAll (fun s => !sb (N2.2.1 (47 + 1)) s) 4096) = true) => ?_) (fun (c_35 : (wAll (fun s => !sb (N2.2.1 (47 + 1)) s) 4096) = false) => ?_)
          · have htg := tgS_f2 (P := tgP M w h) (i := i) (by rw [hP, c_35]; rfl)
            have hF := hF.tr hF2
            refine wa_iinc ((nI (i + 1))) [(3, .int (nI (i + 1))), (4, .int (nI (pcN i))), (1, .int (nI ((tgS (tgP M w h) i).1))), (2, .int (nI ((tgS (tgP M w h) i).2))), (0, wm_r G (0))] dX9_together_43 1 rfl (nI_inc _) (by decide) rfl ?_
            refine wa_goto 6 dX9_together_46 (by decide) ?_
            refine wa_sub [0, 2, 3, 4] rfl ?_
            first | rw [← htg] | rw [show pcN i = (tgS (tgP M w h) (i + 1)).1 by rw [htg], show Value.int (nI i) = Value.int (nI (tgS (tgP M w h) (i + 1)).2) by rw [htg]]
            exact ih_6 (i + 1) _ (by omega) (by omega) (by omega) hF
          · have htg := tgS_t (P := tgP M w h) (i := i) (by omega) (by rw [hP, c_35]; rfl)
            have hF := hF.tr hF2
            refine wa_iload dX9_together_38 0 rfl ?_
            refine wa_istore_n [(1, .int (nI (pcN i))), (4, .int (nI (pcN i))), (3, .int (nI (i))), (2, .int (nI ((tgS (tgP M w h) i).2))), (0, wm_r G (0))] dX9_together_40 rfl (by decide) rfl ?_
            refine wa_iload_n dX9_together_41 rfl 2 rfl ?_
            refine wa_istore_n [(2, .int (nI (i))), (1, .int (nI (pcN i))), (4, .int (nI (pcN i))), (3, .int (nI (i))), (0, wm_r G (0))] dX9_together_42 rfl (by decide) rfl ?_
            refine wa_iinc ((nI (i + 1))) [(3, .int (nI (i + 1))), (2, .int (nI (i))), (1, .int (nI (pcN i))), (4, .int (nI (pcN i))), (0, wm_r G (0))] dX9_together_43 3 rfl (nI_inc _) (by decide) rfl ?_
            refine wa_goto 6 dX9_together_46 (by decide) ?_
            refine wa_sub [0, 2, 1, 4] rfl ?_
            first | rw [← htg] | rw [show pcN i = (tgS (tgP M w h) (i + 1)).1 by rw [htg], show Value.int (nI i) = Value.int (nI (tgS (tgP M w h) (i + 1)).2) by rw [htg]]
            exact ih_6 (i + 1) _ (by omega) (by omega) (by omega) hF
  refine wa_sub [0, 2, 1, 3] rfl ?_
  show WA G t_X9_together _ 6 [(3, .int (nI 1)), (1, .int (nI 0)), (2, .int (nI 0)), (0, wm_r G 0)] [] M
  have q1 : (0 : Nat) = (tgS (tgP M w h) 1).1 := by rw [tgS_1]
  have q2 : (0 : Nat) = (tgS (tgP M w h) 1).2 := by rw [tgS_1]
  conv => arg 5; rw [show [(3, Value.int (nI 1)), (1, Value.int (nI 0)), (2, Value.int (nI 0)), (0, wm_r G 0)] = [(3, Value.int (nI 1)), (1, Value.int (nI (tgS (tgP M w h) 1).1)), (2, Value.int (nI (tgS (tgP M w h) 1).2)), (0, wm_r G 0)] by rw [← q1, ← q2]]
  exact L_6 _ 1 M (Nat.lt_succ_self _) (Nat.le_refl _) (by decide) (Fr.rf _ _ M)

theorem c_hist_bad {G : wm_G} {M : wm_M} (n : Int32) (hy : wIn n 10 = false) : MD G t_X9_histories [wm_r G (0), .int (n)] (M) (some (.int (-1))) (M) := by
  refine wm_met (by decide) (Nat.le_of_ble_eq_true rfl) ?_
  show WA G t_X9_histories (fun v_ N_ => v_ = some (.int (-1)) ∧ N_ = M) 0 [(0, wm_r G (0)), (1, .int (n))] [] (M)
  refine wa_iload_n dX9_histories_0 rfl 1 rfl ?_
  refine wa_cSi (m_isTY n) vX9_isToldYear iX9_histories_1 rfl rfl (Nat.le_of_ble_eq_true rfl) ⟨by decide, by decide⟩ ?_
  refine wa_eqi (y := (0)) (by rw [hy]; rfl) ?_
  refine wa_if_ne 9 dX9_histories_4 (by decide) (fun c_4 => absurd c_4 (by decide)) (fun c_4 => ?_)
  refine wa_iconst (-1) dX9_histories_7 (by decide) ?_
  exact wa_iret dX9_histories_8 rfl ⟨congrArg (fun z => some (Value.int z)) (rfl), rfl⟩

theorem c_hist_no {G : wm_G} {M : wm_M} (w h rn s yr : Nat) (ci : CI M w h rn s yr) (n : Nat) (hy : n < 10) (hq : wAny (fwB M w h rn n) 4096 = false) : MA G t_X9_histories [wm_r G (0), .int (nI (n))] (M) (fun v N => v = some (.int (-3)) ∧ EqR (tNote M 4) N) := by
  obtain ⟨⟨hW, hwh⟩, hSt, ⟨h12, h13, hyr, hs4, hsh⟩, hRo, hTx, hLw, hKp, hRO, ⟨hL1, hL10, hL29, hL58⟩, hSe, hDy⟩ := id ci
  have hn6 := TW_n hW
  have hs : s < 4096 := Nat.lt_of_lt_of_le hs4 (p4_le hn6)
  have hw3 := hW.2.2.1
  have hh2 := hW.2.2.2
  refine wm_met (by decide) (Nat.le_of_ble_eq_true rfl) ?_
  show WA G t_X9_histories (fun v N => v = some (.int (-3)) ∧ EqR (tNote M 4) N) 0 [(0, wm_r G (0)), (1, .int (nI (n)))] [] (M)
  refine wa_iload_n dX9_histories_0 rfl 1 rfl ?_
  refine wa_cSi (m_isTY (nI n)) vX9_isToldYear iX9_histories_1 rfl rfl (Nat.le_of_ble_eq_true rfl) ⟨by decide, by decide⟩ ?_
  refine wa_eqi (y := (1)) (by rw [wIn_nI (by omega), decide_eq_true (by omega)]; rfl) ?_
  refine wa_if_ne 9 dX9_histories_4 (by decide) (fun c_4 => ?_) (fun c_4 => absurd c_4 (by decide))
  refine wa_aload_n dX9_histories_9 rfl 0 rfl ?_
  refine wa_getr gX9_histories_10 (rfl) rfl ?_
  refine wa_iload_n dX9_histories_13 rfl 1 rfl ?_
  refine wa_callV (m_isTold w h hW rn hRO n (by omega)) vX1_isTold iX9_histories_14 (rfl) rfl rfl rfl (Nat.le_of_ble_eq_true rfl) ⟨by decide, by decide⟩ (fun v_ N h_ => ?_)
  obtain ⟨rfl, hF, hLv⟩ := h_
  show WA G t_X9_histories (fun v N => v = some (.int (-3)) ∧ EqR (tNote M 4) N) 17 [(0, wm_r G (0)), (1, .int (nI (n)))] [.int (wB (wAny (fwB M w h rn n) 4096))] (N)
  refine wa_eqi (y := (0)) (by rw [hq]; rfl) ?_
  refine wa_if_ne 26 dX9_histories_17 (by decide) (fun c_17 => absurd c_17 (by decide)) (fun c_17 => ?_)
  refine wa_aload_n dX9_histories_20 rfl 0 rfl ?_
  refine wa_iconst (4) dX9_histories_21 (by decide) ?_
  refine wa_cVi (m_find 4 (by decide) (by decide)) vX9_find iX9_histories_22 (rfl) rfl rfl rfl (Nat.le_of_ble_eq_true rfl) ⟨by decide, by decide⟩ ?_
  refine wa_iret dX9_histories_25 rfl ?_
  exact ⟨rfl, (EqR.p hF).note⟩

theorem c_hist_ok {G : wm_G} {M : wm_M} (w h rn s yr : Nat) (ci : CI M w h rn s yr) (n : Nat) (hy : n < 10) (hq : wAny (fwB M w h rn n) 4096 = true) : MA G t_X9_histories [wm_r G (0), .int (nI (n))] (M) (fun v N => v = some (.int 1) ∧ EqR (tFrac M (hvN M w h rn n) 1) N) := by
  obtain ⟨⟨hW, hwh⟩, hSt, ⟨h12, h13, hyr, hs4, hsh⟩, hRo, hTx, hLw, hKp, hRO, ⟨hL1, hL10, hL29, hL58⟩, hSe, hDy⟩ := id ci
  have hn6 := TW_n hW
  have hs : s < 4096 := Nat.lt_of_lt_of_le hs4 (p4_le hn6)
  have hw3 := hW.2.2.1
  have hh2 := hW.2.2.2
  have hvl := hv_le (M := M) (w := w) (h := h) (rn := rn) (n := n) hn6 (by omega)
  refine wm_met (by decide) (Nat.le_of_ble_eq_true rfl) ?_
  show WA G t_X9_histories (fun v N => v = some (.int 1) ∧ EqR (tFrac M (hvN M w h rn n) 1) N) 0 [(0, wm_r G (0)), (1, .int (nI (n)))] [] (M)
  refine wa_iload_n dX9_histories_0 rfl 1 rfl ?_
  refine wa_cSi (m_isTY (nI n)) vX9_isToldYear iX9_histories_1 rfl rfl (Nat.le_of_ble_eq_true rfl) ⟨by decide, by decide⟩ ?_
  refine wa_eqi (y := (1)) (by rw [wIn_nI (by omega), decide_eq_true (by omega)]; rfl) ?_
  refine wa_if_ne 9 dX9_histories_4 (by decide) (fun c_4 => ?_) (fun c_4 => absurd c_4 (by decide))
  refine wa_aload_n dX9_histories_9 rfl 0 rfl ?_
  refine wa_getr gX9_histories_10 (rfl) rfl ?_
  refine wa_iload_n dX9_histories_13 rfl 1 rfl ?_
  refine wa_callV (m_isTold w h hW rn hRO n (by omega)) vX1_isTold iX9_histories_14 (rfl) rfl rfl rfl (Nat.le_of_ble_eq_true rfl) ⟨by decide, by decide⟩ (fun v_ N h_ => ?_)
  obtain ⟨rfl, hF, hLv⟩ := h_
  show WA G t_X9_histories (fun v N => v = some (.int 1) ∧ EqR (tFrac M (hvN M w h rn n) 1) N) 17 [(0, wm_r G (0)), (1, .int (nI (n)))] [.int (wB (wAny (fwB M w h rn n) 4096))] (N)
  refine wa_eqi (y := (1)) (by rw [hq]; rfl) ?_
  refine wa_if_ne 26 dX9_histories_17 (by decide) (fun c_17 => ?_) (fun c_17 => absurd c_17 (by decide))
  refine wa_aload_n dX9_histories_26 rfl 0 rfl ?_
  refine wa_getr gX9_histories_27 (rfl) rfl ?_
  refine wa_aload_n dX9_histories_30 rfl 0 rfl ?_
  refine wa_getr gX9_histories_31 (rfl) rfl ?_
  refine wa_iload_n dX9_histories_34 rfl 1 rfl ?_
  refine wa_callV (m_allWays w h (hF.w hW) rn (hF.r hRO) n (by omega) (N.2.2 0) rfl (by rw [hF.2.2]; exact hDy) (fun k s => lvB M w h rn n (n - k) s) (hLv)) vX1_allWays iX9_histories_35 (rfl) rfl rfl rfl (Nat.le_of_ble_eq_true rfl) ⟨by decide, by decide⟩ (fun v_ N2 h_ => ?_)
  obtain ⟨rfl, hF2, hd2⟩ := h_
  show WA G t_X9_histories (fun v N => v = some (.int 1) ∧ EqR (tFrac M (hvN M w h rn n) 1) N) 38 [(0, wm_r G (0)), (1, .int (nI (n)))] [.int (nI (wSum (wyN (N.1 18) (w * h) (kpB (fun k s => lvB M w h rn n (n - k) s) (-9) (sb (N.2.1 (67 + 1)))) (lastT N n rn)) (4 ^ (w * h)) * chN (N.1 18) (w * h) ^ (n - lastT N n rn))), wm_r G (92)] (N2)
  refine wa_eqi (y := (nI (hvN M w h rn n))) (congrArg nI (hv_eq (hF.1 18 (by decide)) (hF.1 55 (by decide)) hn6 (by omega))) ?_
  refine wa_i2l dX9_histories_38 ?_
  refine wa_eql (y := lN (hvN M w h rn n)) (nI_l (by omega)) ?_
  refine wa_lconst (1) dX9_histories_39 (by decide) ?_
  refine wa_eql (y := lN 1) (rfl) ?_
  refine wa_cVv (m_tfrac (hvN M w h rn n) 1 (by omega) (by decide) (by decide)) vX6_fraction iX9_histories_40 (rfl) rfl rfl rfl (Nat.le_of_ble_eq_true rfl) ⟨by decide, by decide⟩ ?_
  refine wa_iconst (1) dX9_histories_43 (by decide) ?_
  refine wa_iret dX9_histories_44 rfl ?_
  exact ⟨rfl, ((EqR.p hF).tr (EqR.w hF2 hd2)).frac⟩

theorem c_when_bad1 {G : wm_G} {M : wm_M} (n l : Int32) (hy : wIn n 10 = false) : MD G t_X9_when [wm_r G (0), .int (n), .int (l)] (M) (some (.int (-1))) (M) := by
  refine wm_met (by decide) (Nat.le_of_ble_eq_true rfl) ?_
  show WA G t_X9_when (fun v_ N_ => v_ = some (.int (-1)) ∧ N_ = M) 0 [(0, wm_r G (0)), (1, .int (n)), (2, .int (l))] [] (M)
  refine wa_iload_n dX9_when_0 rfl 1 rfl ?_
  refine wa_cSi (m_isTY n) vX9_isToldYear iX9_when_1 rfl rfl (Nat.le_of_ble_eq_true rfl) ⟨by decide, by decide⟩ ?_
  refine wa_eqi (y := (0)) (by rw [hy]; rfl) ?_
  refine wa_if_ne 9 dX9_when_4 (by decide) (fun c_4 => absurd c_4 (by decide)) (fun c_4 => ?_)
  refine wa_iconst (-1) dX9_when_7 (by decide) ?_
  exact wa_iret dX9_when_8 rfl ⟨congrArg (fun z => some (Value.int z)) (rfl), rfl⟩

theorem c_when_bad2 {G : wm_G} {M : wm_M} (n : Nat) (hy : n < 10) (l : Int32) (hr : wIn l 4 = false) : MD G t_X9_when [wm_r G (0), .int (nI (n)), .int (l)] (M) (some (.int (-1))) (M) := by
  refine wm_met (by decide) (Nat.le_of_ble_eq_true rfl) ?_
  show WA G t_X9_when (fun v_ N_ => v_ = some (.int (-1)) ∧ N_ = M) 0 [(0, wm_r G (0)), (1, .int (nI (n))), (2, .int (l))] [] (M)
  refine wa_iload_n dX9_when_0 rfl 1 rfl ?_
  refine wa_cSi (m_isTY (nI n)) vX9_isToldYear iX9_when_1 rfl rfl (Nat.le_of_ble_eq_true rfl) ⟨by decide, by decide⟩ ?_
  refine wa_eqi (y := (1)) (by rw [wIn_nI (by omega), decide_eq_true (by omega)]; rfl) ?_
  refine wa_if_ne 9 dX9_when_4 (by decide) (fun c_4 => ?_) (fun c_4 => absurd c_4 (by decide))
  refine wa_aload_n dX9_when_9 rfl 0 rfl ?_
  refine wa_aload_n dX9_when_10 rfl 0 rfl ?_
  refine wa_getr gX9_when_11 (rfl) rfl ?_
  refine wa_getr gX9_when_14 (rfl) rfl ?_
  refine wa_iload_n dX9_when_17 rfl 2 rfl ?_
  refine wa_cVi (m_ref_bad 29 4 3 TB_laws l hr) vX9_refusal iX9_when_18 (rfl) rfl rfl rfl (Nat.le_of_ble_eq_true rfl) ⟨by decide, by decide⟩ ?_
  refine wa_istore_n [(3, .int (-1)), (0, wm_r G (0)), (1, .int (nI (n))), (2, .int (l))] dX9_when_21 rfl (by decide) rfl ?_
  refine wa_iload_n dX9_when_22 rfl 0 rfl ?_
  refine wa_if_eq 28 dX9_when_23 (by decide) (fun c_23 => absurd c_23 (by decide)) (fun c_23 => ?_)
  refine wa_iload_n dX9_when_26 rfl 0 rfl ?_
  exact wa_iret dX9_when_27 rfl ⟨congrArg (fun z => some (Value.int z)) (rfl), rfl⟩

theorem c_when_no {G : wm_G} {M : wm_M} (n : Nat) (hy : n < 10) (l : Nat) (hr : l < 4) (hz : M.1 35 l = -1) : MD G t_X9_when [wm_r G (0), .int (nI (n)), .int (nI (l))] (M) (some (.int (-3))) (tNote M 1) := by
  refine wm_met (by decide) (Nat.le_of_ble_eq_true rfl) ?_
  show WA G t_X9_when (fun v_ N_ => v_ = some (.int (-3)) ∧ N_ = tNote M 1) 0 [(0, wm_r G (0)), (1, .int (nI (n))), (2, .int (nI (l)))] [] (M)
  refine wa_iload_n dX9_when_0 rfl 1 rfl ?_
  refine wa_cSi (m_isTY (nI n)) vX9_isToldYear iX9_when_1 rfl rfl (Nat.le_of_ble_eq_true rfl) ⟨by decide, by decide⟩ ?_
  refine wa_eqi (y := (1)) (by rw [wIn_nI (by omega), decide_eq_true (by omega)]; rfl) ?_
  refine wa_if_ne 9 dX9_when_4 (by decide) (fun c_4 => ?_) (fun c_4 => absurd c_4 (by decide))
  refine wa_aload_n dX9_when_9 rfl 0 rfl ?_
  refine wa_aload_n dX9_when_10 rfl 0 rfl ?_
  refine wa_getr gX9_when_11 (rfl) rfl ?_
  refine wa_getr gX9_when_14 (rfl) rfl ?_
  refine wa_iload_n dX9_when_17 rfl 2 rfl ?_
  refine wa_cVi (m_ref_no 29 4 3 TB_laws l hr hz) vX9_refusal iX9_when_18 (rfl) rfl rfl rfl (Nat.le_of_ble_eq_true rfl) ⟨by decide, by decide⟩ ?_
  refine wa_istore_n [(3, .int (-3)), (0, wm_r G (0)), (1, .int (nI (n))), (2, .int (nI (l)))] dX9_when_21 rfl (by decide) rfl ?_
  refine wa_iload_n dX9_when_22 rfl 0 rfl ?_
  refine wa_if_eq 28 dX9_when_23 (by decide) (fun c_23 => absurd c_23 (by decide)) (fun c_23 => ?_)
  refine wa_iload_n dX9_when_26 rfl 0 rfl ?_
  exact wa_iret dX9_when_27 rfl ⟨congrArg (fun z => some (Value.int z)) (rfl), rfl⟩

theorem c_when_nt {G : wm_G} {M : wm_M} (w h rn s yr : Nat) (ci : CI M w h rn s yr) (n : Nat) (hy : n < 10) (l : Nat) (hr : l < 4) (hz : ¬ M.1 35 l = -1) (hq : wAny (fwB M w h rn n) 4096 = false) : MA G t_X9_when [wm_r G (0), .int (nI (n)), .int (nI (l))] (M) (fun v N => v = some (.int (-3)) ∧ EqR (tNote M 4) N) := by
  obtain ⟨⟨hW, hwh⟩, hSt, ⟨h12, h13, hyr, hs4, hsh⟩, hRo, hTx, hLw, hKp, hRO, ⟨hL1, hL10, hL29, hL58⟩, hSe, hDy⟩ := id ci
  have hn6 := TW_n hW
  have hs : s < 4096 := Nat.lt_of_lt_of_le hs4 (p4_le hn6)
  have hw3 := hW.2.2.1
  have hh2 := hW.2.2.2
  refine wm_met (by decide) (Nat.le_of_ble_eq_true rfl) ?_
  show WA G t_X9_when (fun v N => v = some (.int (-3)) ∧ EqR (tNote M 4) N) 0 [(0, wm_r G (0)), (1, .int (nI (n))), (2, .int (nI (l)))] [] (M)
  refine wa_iload_n dX9_when_0 rfl 1 rfl ?_
  refine wa_cSi (m_isTY (nI n)) vX9_isToldYear iX9_when_1 rfl rfl (Nat.le_of_ble_eq_true rfl) ⟨by decide, by decide⟩ ?_
  refine wa_eqi (y := (1)) (by rw [wIn_nI (by omega), decide_eq_true (by omega)]; rfl) ?_
  refine wa_if_ne 9 dX9_when_4 (by decide) (fun c_4 => ?_) (fun c_4 => absurd c_4 (by decide))
  refine wa_aload_n dX9_when_9 rfl 0 rfl ?_
  refine wa_aload_n dX9_when_10 rfl 0 rfl ?_
  refine wa_getr gX9_when_11 (rfl) rfl ?_
  refine wa_getr gX9_when_14 (rfl) rfl ?_
  refine wa_iload_n dX9_when_17 rfl 2 rfl ?_
  refine wa_cVi (m_ref_ok 29 4 3 TB_laws l hr hz) vX9_refusal iX9_when_18 (rfl) rfl rfl rfl (Nat.le_of_ble_eq_true rfl) ⟨by decide, by decide⟩ ?_
  refine wa_istore_n [(3, .int (0)), (0, wm_r G (0)), (1, .int (nI (n))), (2, .int (nI (l)))] dX9_when_21 rfl (by decide) rfl ?_
  refine wa_iload_n dX9_when_22 rfl 0 rfl ?_
  refine wa_if_eq 28 dX9_when_23 (by decide) (fun c_23 => ?_) (fun c_23 => absurd c_23 (by decide))
  refine wa_aload_n dX9_when_28 rfl 1 rfl ?_
  refine wa_getr gX9_when_29 (rfl) rfl ?_
  refine wa_iload_n dX9_when_32 rfl 2 rfl ?_
  refine wa_callV (m_isTold w h hW rn hRO n (by omega)) vX1_isTold iX9_when_33 (rfl) rfl rfl rfl (Nat.le_of_ble_eq_true rfl) ⟨by decide, by decide⟩ (fun v_ N h_ => ?_)
  obtain ⟨rfl, hF, hLv⟩ := h_
  show WA G t_X9_when (fun v N => v = some (.int (-3)) ∧ EqR (tNote M 4) N) 36 [(3, .int (0)), (0, wm_r G (0)), (1, .int (nI (n))), (2, .int (nI (l)))] [.int (wB (wAny (fwB M w h rn n) 4096))] (N)
  refine wa_eqi (y := (0)) (by rw [hq]; rfl) ?_
  refine wa_if_ne 45 dX9_when_36 (by decide) (fun c_36 => absurd c_36 (by decide)) (fun c_36 => ?_)
  refine wa_aload_n dX9_when_39 rfl 1 rfl ?_
  refine wa_iconst (4) dX9_when_40 (by decide) ?_
  refine wa_cVi (m_find 4 (by decide) (by decide)) vX9_find iX9_when_41 (rfl) rfl rfl rfl (Nat.le_of_ble_eq_true rfl) ⟨by decide, by decide⟩ ?_
  refine wa_iret dX9_when_44 rfl ?_
  exact ⟨rfl, (EqR.p hF).note⟩

theorem c_when_ok {G : wm_G} {M : wm_M} (w h rn s yr : Nat) (ci : CI M w h rn s yr) (n : Nat) (hy : n < 10) (l : Nat) (hr : l < 4) (hz : ¬ M.1 35 l = -1) (hq : wAny (fwB M w h rn n) 4096 = true) : MA G t_X9_when [wm_r G (0), .int (nI (n)), .int (nI (l))] (M) (fun v N => v = some (.int (nI (wBits (whA M w h rn n l) (n + 1)))) ∧ EqR (tTell M (nI (wBits (whS M w h rn n l) (n + 1)))) N) := by
  obtain ⟨⟨hW, hwh⟩, hSt, ⟨h12, h13, hyr, hs4, hsh⟩, hRo, hTx, hLw, hKp, hRO, ⟨hL1, hL10, hL29, hL58⟩, hSe, hDy⟩ := id ci
  have hn6 := TW_n hW
  have hs : s < 4096 := Nat.lt_of_lt_of_le hs4 (p4_le hn6)
  have hw3 := hW.2.2.1
  have hh2 := hW.2.2.2
  refine wm_met (by decide) (Nat.le_of_ble_eq_true rfl) ?_
  show WA G t_X9_when (fun v N => v = some (.int (nI (wBits (whA M w h rn n l) (n + 1)))) ∧ EqR (tTell M (nI (wBits (whS M w h rn n l) (n + 1)))) N) 0 [(0, wm_r G (0)), (1, .int (nI (n))), (2, .int (nI (l)))] [] (M)
  refine wa_iload_n dX9_when_0 rfl 1 rfl ?_
  refine wa_cSi (m_isTY (nI n)) vX9_isToldYear iX9_when_1 rfl rfl (Nat.le_of_ble_eq_true rfl) ⟨by decide, by decide⟩ ?_
  refine wa_eqi (y := (1)) (by rw [wIn_nI (by omega), decide_eq_true (by omega)]; rfl) ?_
  refine wa_if_ne 9 dX9_when_4 (by decide) (fun c_4 => ?_) (fun c_4 => absurd c_4 (by decide))
  refine wa_aload_n dX9_when_9 rfl 0 rfl ?_
  refine wa_aload_n dX9_when_10 rfl 0 rfl ?_
  refine wa_getr gX9_when_11 (rfl) rfl ?_
  refine wa_getr gX9_when_14 (rfl) rfl ?_
  refine wa_iload_n dX9_when_17 rfl 2 rfl ?_
  refine wa_cVi (m_ref_ok 29 4 3 TB_laws l hr hz) vX9_refusal iX9_when_18 (rfl) rfl rfl rfl (Nat.le_of_ble_eq_true rfl) ⟨by decide, by decide⟩ ?_
  refine wa_istore_n [(3, .int (0)), (0, wm_r G (0)), (1, .int (nI (n))), (2, .int (nI (l)))] dX9_when_21 rfl (by decide) rfl ?_
  refine wa_iload_n dX9_when_22 rfl 0 rfl ?_
  refine wa_if_eq 28 dX9_when_23 (by decide) (fun c_23 => ?_) (fun c_23 => absurd c_23 (by decide))
  refine wa_aload_n dX9_when_28 rfl 1 rfl ?_
  refine wa_getr gX9_when_29 (rfl) rfl ?_
  refine wa_iload_n dX9_when_32 rfl 2 rfl ?_
  refine wa_callV (m_isTold w h hW rn hRO n (by omega)) vX1_isTold iX9_when_33 (rfl) rfl rfl rfl (Nat.le_of_ble_eq_true rfl) ⟨by decide, by decide⟩ (fun v_ N h_ => ?_)
  obtain ⟨rfl, hF, hLv⟩ := h_
  show WA G t_X9_when (fun v N => v = some (.int (nI (wBits (whA M w h rn n l) (n + 1)))) ∧ EqR (tTell M (nI (wBits (whS M w h rn n l) (n + 1)))) N) 36 [(3, .int (0)), (0, wm_r G (0)), (1, .int (nI (n))), (2, .int (nI (l)))] [.int (wB (wAny (fwB M w h rn n) 4096))] (N)
  refine wa_eqi (y := (1)) (by rw [hq]; rfl) ?_
  refine wa_if_ne 45 dX9_when_36 (by decide) (fun c_36 => ?_) (fun c_36 => absurd c_36 (by decide))
  refine wa_iconst (0) dX9_when_45 (by decide) ?_
  refine wa_eqi (y := (nI (wBits (whA M w h rn n l) 0))) (rfl) ?_
  refine wa_istore [(4, .int (nI (wBits (whA M w h rn n l) 0))), (3, .int (0)), (0, wm_r G (0)), (1, .int (nI (n))), (2, .int (nI (l)))] dX9_when_46 (by decide) rfl ?_
  refine wa_iconst (0) dX9_when_48 (by decide) ?_
  refine wa_eqi (y := (nI (wBits (whS M w h rn n l) 0))) (rfl) ?_
  refine wa_istore [(5, .int (nI (wBits (whS M w h rn n l) 0))), (4, .int (nI (wBits (whA M w h rn n l) 0))), (3, .int (0)), (0, wm_r G (0)), (1, .int (nI (n))), (2, .int (nI (l)))] dX9_when_49 (by decide) rfl ?_
  refine wa_iconst (0) dX9_when_51 (by decide) ?_
  refine wa_istore [(6, .int (0)), (5, .int (nI (wBits (whS M w h rn n l) 0))), (4, .int (nI (wBits (whA M w h rn n l) 0))), (3, .int (0)), (0, wm_r G (0)), (1, .int (nI (n))), (2, .int (nI (l)))] dX9_when_52 (by decide) rfl ?_
  have L_54 : ∀ (n_ : Nat) (k : Nat), (n + 1 - k) < n_ → (k ≤ n + 1) → WA G t_X9_when (fun v N => v = some (.int (nI (wBits (whA M w h rn n l) (n + 1)))) ∧ EqR (tTell M (nI (wBits (whS M w h rn n l) (n + 1)))) N) 54 [(6, .int (nI (k))), (4, .int (nI (wBits (whA M w h rn n l) k))), (5, .int (nI (wBits (whS M w h rn n l) k))), (0, wm_r G (0)), (1, .int (nI (n))), (2, .int (nI (l)))] [] (N) := by
    intro n_
    induction n_ with
    | zero => intro k h_; exact absurd h_ (Nat.not_lt_zero _)
    | succ n_ ih_54 =>
      intro k h_ hk
      refine wa_iload dX9_when_54 0 rfl ?_
      refine wa_iload_n dX9_when_56 rfl 4 rfl ?_
      refine wa_icmp_gtN (a := k) (b := n) 134 dX9_when_57 (by decide) (by omega) (by omega) (fun c_57 => ?_) (fun c_57 => ?_)
      · refine wa_aload_n dX9_when_134 rfl 3 rfl ?_
        refine wa_getr gX9_when_135 (rfl) rfl ?_
        refine wa_iload dX9_when_138 2 rfl ?_
        refine wa_puti gX9_when_140 (rfl) rfl ?_
        refine wa_iload dX9_when_143 1 rfl ?_
        refine wa_iret dX9_when_145 rfl ?_
        exact ⟨by rw [show k = n + 1 by omega], by rw [show k = n + 1 by omega]; exact (EqR.p hF).tell⟩
      · refine wa_aload_n dX9_when_60 rfl 3 rfl ?_
        refine wa_getr gX9_when_61 (rfl) rfl ?_
        refine wa_getr gX9_when_64 (rfl) rfl ?_
        refine wa_iload dX9_when_67 0 rfl ?_
        refine wa_aaldN (e := k) (Or.inr rfl) dX9_when_69 (rfl) (by omega) (by decide) ?_
        refine wa_aload_n dX9_when_70 rfl 3 rfl ?_
        refine wa_getr gX9_when_71 (rfl) rfl ?_
        refine wa_getr gX9_when_74 (rfl) rfl ?_
        refine wa_iload_n dX9_when_77 rfl 5 rfl ?_
        refine wa_aaldN (e := l) (Or.inr rfl) dX9_when_78 (rfl) (by omega) (by decide) ?_
        refine wa_cVi (m_isWithin (72 + 2 * k) (38 + 2 * l) (SSv k (by omega)) (SSl l hr)) vX3_isWithin iX9_when_79 ((SSv k (by omega)).1) rfl rfl rfl (Nat.le_of_ble_eq_true rfl) ⟨by decide, by decide⟩ ?_
        refine wa_eqi (y := (wB (whA M w h rn n l k))) (congrArg wB (by unfold whA; exact wAll_cong (fun s hs => by rw [hLv k (by omega) s hs, hF.2.1 _ (by omega)]; rfl))) ?_
        refine wa_if_eqB 94 dX9_when_82 (by decide) (fun (c_82 : (whA M w h rn n l k) = false) => ?_) (fun (c_82 : (whA M w h rn n l k) = true) => ?_)
        · have hA0 : whA M w h rn n l k = false := c_82
          refine wa_aload_n dX9_when_94 rfl 3 rfl ?_
          refine wa_getr gX9_when_95 (rfl) rfl ?_
          refine wa_getr gX9_when_98 (rfl) rfl ?_
          refine wa_iload dX9_when_101 0 rfl ?_
          refine wa_aaldN (e := k) (Or.inr rfl) dX9_when_103 (rfl) (by omega) (by decide) ?_
          refine wa_aload_n dX9_when_104 rfl 3 rfl ?_
          refine wa_getr gX9_when_105 (rfl) rfl ?_
          refine wa_getr gX9_when_108 (rfl) rfl ?_
          refine wa_iload_n dX9_when_111 rfl 5 rfl ?_
          refine wa_aaldN (e := l) (Or.inr rfl) dX9_when_112 (rfl) (by omega) (by decide) ?_
          refine wa_cVi (m_meets (72 + 2 * k) (38 + 2 * l) (SSv k (by omega)) (SSl l hr)) vX3_meets iX9_when_113 ((SSv k (by omega)).1) rfl rfl rfl (Nat.le_of_ble_eq_true rfl) ⟨by decide, by decide⟩ ?_
          refine wa_eqi (y := (wB (whS M w h rn n l k))) (congrArg wB (by rw [meets_any]; unfold whS; exact wAny_cong (fun s hs => by rw [hLv k (by omega) s hs, hF.2.1 _ (by omega)]; rfl))) ?_
          refine wa_if_eqB 128 dX9_when_116 (by decide) (fun (c_116 : (whS M w h rn n l k) = false) => ?_) (fun (c_116 : (whS M w h rn n l k) = true) => ?_)
          · have hS0 : whS M w h rn n l k = false := c_116
            refine wa_iinc ((nI (k + 1))) [(6, .int (nI (k + 1))), (4, .int (nI (wBits (whA M w h rn n l) k))), (5, .int (nI (wBits (whS M w h rn n l) k))), (0, wm_r G (0)), (1, .int (nI (n))), (2, .int (nI (l)))] dX9_when_128 0 rfl (nI_inc _) (by decide) rfl ?_
            refine wa_goto 54 dX9_when_131 (by decide) ?_
            first | rw [wBits_f (p := whA M w h rn n l) (n := k) hA0, wBits_f (p := whS M w h rn n l) (n := k) hS0] | rw [wBits_f (p := whA M w h rn n l) (n := k) hA0] | rw [wBits_f (p := whS M w h rn n l) (n := k) hS0] | skip
            exact ih_54 (k + 1) (by omega) (by omega)
          · have hS : whS M w h rn n l k = true := c_116
            refine wa_iload dX9_when_119 2 rfl ?_
            refine wa_iconst (1) dX9_when_121 (by decide) ?_
            refine wa_iload dX9_when_122 0 rfl ?_
            refine wa_ishl dX9_when_124 ?_
            refine wa_ior dX9_when_125 ?_
            refine wa_eqi (y := (nI (wBits (whS M w h rn n l) (k + 1)))) (wBits_t hS (by omega)) ?_
            refine wa_istore [(5, .int (nI (wBits (whS M w h rn n l) (k + 1)))), (6, .int (nI (k))), (4, .int (nI (wBits (whA M w h rn n l) k))), (0, wm_r G (0)), (1, .int (nI (n))), (2, .int (nI (l)))] dX9_when_126 (by decide) rfl ?_
            refine wa_iinc ((nI (k + 1))) [(6, .int (nI (k + 1))), (5, .int (nI (wBits (whS M w h rn n l) (k + 1)))), (4, .int (nI (wBits (whA M w h rn n l) k))), (0, wm_r G (0)), (1, .int (nI (n))), (2, .int (nI (l)))] dX9_when_128 1 rfl (nI_inc _) (by decide) rfl ?_
            refine wa_goto 54 dX9_when_131 (by decide) ?_
            refine wa_sub [0, 2, 1, 3, 4, 5] rfl ?_
            first | rw [wBits_f (p := whA M w h rn n l) (n := k) hA0, wBits_f (p := whS M w h rn n l) (n := k) hS0] | rw [wBits_f (p := whA M w h rn n l) (n := k) hA0] | rw [wBits_f (p := whS M w h rn n l) (n := k) hS0] | skip
            exact ih_54 (k + 1) (by omega) (by omega)
        · have hA : whA M w h rn n l k = true := c_82
          refine wa_iload dX9_when_85 1 rfl ?_
          refine wa_iconst (1) dX9_when_87 (by decide) ?_
          refine wa_iload dX9_when_88 0 rfl ?_
          refine wa_ishl dX9_when_90 ?_
          refine wa_ior dX9_when_91 ?_
          refine wa_eqi (y := (nI (wBits (whA M w h rn n l) (k + 1)))) (wBits_t hA (by omega)) ?_
          refine wa_istore [(4, .int (nI (wBits (whA M w h rn n l) (k + 1)))), (6, .int (nI (k))), (5, .int (nI (wBits (whS M w h rn n l) k))), (0, wm_r G (0)), (1, .int (nI (n))), (2, .int (nI (l)))] dX9_when_92 (by decide) rfl ?_
          refine wa_aload_n dX9_when_94 rfl 3 rfl ?_
          refine wa_getr gX9_when_95 (rfl) rfl ?_
          refine wa_getr gX9_when_98 (rfl) rfl ?_
          refine wa_iload dX9_when_101 1 rfl ?_
          refine wa_aaldN (e := k) (Or.inr rfl) dX9_when_103 (rfl) (by omega) (by decide) ?_
          refine wa_aload_n dX9_when_104 rfl 3 rfl ?_
          refine wa_getr gX9_when_105 (rfl) rfl ?_
          refine wa_getr gX9_when_108 (rfl) rfl ?_
          refine wa_iload_n dX9_when_111 rfl 5 rfl ?_
          refine wa_aaldN (e := l) (Or.inr rfl) dX9_when_112 (rfl) (by omega) (by decide) ?_
          refine wa_cVi (m_meets (72 + 2 * k) (38 + 2 * l) (SSv k (by omega)) (SSl l hr)) vX3_meets iX9_when_113 ((SSv k (by omega)).1) rfl rfl rfl (Nat.le_of_ble_eq_true rfl) ⟨by decide, by decide⟩ ?_
          refine wa_eqi (y := (wB (whS M w h rn n l k))) (congrArg wB (by rw [meets_any]; unfold whS; exact wAny_cong (fun s hs => by rw [hLv k (by omega) s hs, hF.2.1 _ (by omega)]; rfl))) ?_
          refine wa_if_eqB 128 dX9_when_116 (by decide) (fun (c_116 : (whS M w h rn n l k) = false) => ?_) (fun (c_116 : (whS M w h rn n l k) = true) => ?_)
          · have hS0 : whS M w h rn n l k = false := c_116
            refine wa_iinc ((nI (k + 1))) [(6, .int (nI (k + 1))), (4, .int (nI (wBits (whA M w h rn n l) (k + 1)))), (5, .int (nI (wBits (whS M w h rn n l) k))), (0, wm_r G (0)), (1, .int (nI (n))), (2, .int (nI (l)))] dX9_when_128 1 rfl (nI_inc _) (by decide) rfl ?_
            refine wa_goto 54 dX9_when_131 (by decide) ?_
            first | rw [wBits_f (p := whA M w h rn n l) (n := k) hA0, wBits_f (p := whS M w h rn n l) (n := k) hS0] | rw [wBits_f (p := whA M w h rn n l) (n := k) hA0] | rw [wBits_f (p := whS M w h rn n l) (n := k) hS0] | skip
            exact ih_54 (k + 1) (by omega) (by omega)
          · have hS : whS M w h rn n l k = true := c_116
            refine wa_iload dX9_when_119 2 rfl ?_
            refine wa_iconst (1) dX9_when_121 (by decide) ?_
            refine wa_iload dX9_when_122 1 rfl ?_
            refine wa_ishl dX9_when_124 ?_
            refine wa_ior dX9_when_125 ?_
            refine wa_eqi (y := (nI (wBits (whS M w h rn n l) (k + 1)))) (wBits_t hS (by omega)) ?_
            refine wa_istore [(5, .int (nI (wBits (whS M w h rn n l) (k + 1)))), (4, .int (nI (wBits (whA M w h rn n l) (k + 1)))), (6, .int (nI (k))), (0, wm_r G (0)), (1, .int (nI (n))), (2, .int (nI (l)))] dX9_when_126 (by decide) rfl ?_
            refine wa_iinc ((nI (k + 1))) [(6, .int (nI (k + 1))), (5, .int (nI (wBits (whS M w h rn n l) (k + 1)))), (4, .int (nI (wBits (whA M w h rn n l) (k + 1)))), (0, wm_r G (0)), (1, .int (nI (n))), (2, .int (nI (l)))] dX9_when_128 2 rfl (nI_inc _) (by decide) rfl ?_
            refine wa_goto 54 dX9_when_131 (by decide) ?_
            refine wa_sub [0, 2, 1, 3, 4, 5] rfl ?_
            first | rw [wBits_f (p := whA M w h rn n l) (n := k) hA0, wBits_f (p := whS M w h rn n l) (n := k) hS0] | rw [wBits_f (p := whA M w h rn n l) (n := k) hA0] | rw [wBits_f (p := whS M w h rn n l) (n := k) hS0] | skip
            exact ih_54 (k + 1) (by omega) (by omega)
  refine wa_sub [0, 2, 1, 4, 5, 6] rfl ?_
  exact L_54 _ 0 (Nat.lt_succ_self _) (Nat.zero_le _)

theorem c_turned_bad1 {G : wm_G} {M : wm_M} (n k : Int32) (hy : wIn n 10 = false) : MD G t_X9_turned [wm_r G (0), .int (n), .int (k)] (M) (some (.int (-1))) (M) := by
  refine wm_met (by decide) (Nat.le_of_ble_eq_true rfl) ?_
  show WA G t_X9_turned (fun v_ N_ => v_ = some (.int (-1)) ∧ N_ = M) 0 [(0, wm_r G (0)), (1, .int (n)), (2, .int (k))] [] (M)
  refine wa_iload_n dX9_turned_0 rfl 1 rfl ?_
  refine wa_cSi (m_isTY n) vX9_isToldYear iX9_turned_1 rfl rfl (Nat.le_of_ble_eq_true rfl) ⟨by decide, by decide⟩ ?_
  refine wa_eqi (y := (0)) (by rw [hy]; rfl) ?_
  refine wa_if_eq 17 dX9_turned_4 (by decide) (fun c_4 => ?_) (fun c_4 => absurd c_4 (by decide))
  refine wa_iconst (-1) dX9_turned_17 (by decide) ?_
  exact wa_iret dX9_turned_18 rfl ⟨congrArg (fun z => some (Value.int z)) (rfl), rfl⟩

theorem c_turned_bad2 {G : wm_G} {M : wm_M} (n : Nat) (hy : n < 10) (k : Int32) (hp : k < 1 ∨ ¬ k ≤ nI n) : MD G t_X9_turned [wm_r G (0), .int (nI (n)), .int (k)] (M) (some (.int (-1))) (M) := by
  refine wm_met (by decide) (Nat.le_of_ble_eq_true rfl) ?_
  show WA G t_X9_turned (fun v_ N_ => v_ = some (.int (-1)) ∧ N_ = M) 0 [(0, wm_r G (0)), (1, .int (nI (n))), (2, .int (k))] [] (M)
  refine wa_iload_n dX9_turned_0 rfl 1 rfl ?_
  refine wa_cSi (m_isTY (nI n)) vX9_isToldYear iX9_turned_1 rfl rfl (Nat.le_of_ble_eq_true rfl) ⟨by decide, by decide⟩ ?_
  refine wa_eqi (y := (1)) (by rw [wIn_nI (by omega), decide_eq_true (by omega)]; rfl) ?_
  refine wa_if_eq 17 dX9_turned_4 (by decide) (fun c_4 => absurd c_4 (by decide)) (fun c_4 => ?_)
  refine wa_iload_n dX9_turned_7 rfl 2 rfl ?_
  refine wa_iconst (1) dX9_turned_8 (by decide) ?_
  refine wa_icmp_lt 17 dX9_turned_9 (by decide) (fun c_9 => ?_) (fun c_9 => ?_)
  · refine wa_iconst (-1) dX9_turned_17 (by decide) ?_
    exact wa_iret dX9_turned_18 rfl ⟨congrArg (fun z => some (Value.int z)) (rfl), rfl⟩
  · refine wa_iload_n dX9_turned_12 rfl 2 rfl ?_
    refine wa_iload_n dX9_turned_13 rfl 1 rfl ?_
    refine wa_icmp_le 19 dX9_turned_14 (by decide) (fun c_14 => absurd hp (fun q => q.elim c_9 (fun q => q c_14))) (fun c_14 => ?_)
    refine wa_iconst (-1) dX9_turned_17 (by decide) ?_
    exact wa_iret dX9_turned_18 rfl ⟨congrArg (fun z => some (Value.int z)) (rfl), rfl⟩

theorem c_turned_nt {G : wm_G} {M : wm_M} (w h rn s yr : Nat) (ci : CI M w h rn s yr) (n : Nat) (hy : n < 10) (k : Nat) (h1 : 1 ≤ k) (hk : k ≤ n) (hq : wAny (fwB M w h rn n) 4096 = false) : MA G t_X9_turned [wm_r G (0), .int (nI (n)), .int (nI (k))] (M) (fun v N => v = some (.int (-3)) ∧ EqR (tNote M 4) N) := by
  obtain ⟨⟨hW, hwh⟩, hSt, ⟨h12, h13, hyr, hs4, hsh⟩, hRo, hTx, hLw, hKp, hRO, ⟨hL1, hL10, hL29, hL58⟩, hSe, hDy⟩ := id ci
  have hn6 := TW_n hW
  have hs : s < 4096 := Nat.lt_of_lt_of_le hs4 (p4_le hn6)
  have hw3 := hW.2.2.1
  have hh2 := hW.2.2.2
  refine wm_met (by decide) (Nat.le_of_ble_eq_true rfl) ?_
  show WA G t_X9_turned (fun v N => v = some (.int (-3)) ∧ EqR (tNote M 4) N) 0 [(0, wm_r G (0)), (1, .int (nI (n))), (2, .int (nI (k)))] [] (M)
  refine wa_iload_n dX9_turned_0 rfl 1 rfl ?_
  refine wa_cSi (m_isTY (nI n)) vX9_isToldYear iX9_turned_1 rfl rfl (Nat.le_of_ble_eq_true rfl) ⟨by decide, by decide⟩ ?_
  refine wa_eqi (y := (1)) (by rw [wIn_nI (by omega), decide_eq_true (by omega)]; rfl) ?_
  refine wa_if_eq 17 dX9_turned_4 (by decide) (fun c_4 => absurd c_4 (by decide)) (fun c_4 => ?_)
  refine wa_iload_n dX9_turned_7 rfl 2 rfl ?_
  refine wa_iconst (1) dX9_turned_8 (by decide) ?_
  refine wa_icmp_ltN (a := k) (b := 1) 17 dX9_turned_9 (by decide) (by omega) (by omega) (fun c_9 => absurd c_9 (by omega)) (fun c_9 => ?_)
  refine wa_iload_n dX9_turned_12 rfl 2 rfl ?_
  refine wa_iload_n dX9_turned_13 rfl 1 rfl ?_
  refine wa_icmp_leN (a := k) (b := n) 19 dX9_turned_14 (by decide) (by omega) (by omega) (fun c_14 => ?_) (fun c_14 => absurd c_14 (by omega))
  refine wa_aload_n dX9_turned_19 rfl 0 rfl ?_
  refine wa_getr gX9_turned_20 (rfl) rfl ?_
  refine wa_iload_n dX9_turned_23 rfl 1 rfl ?_
  refine wa_callV (m_isTold w h hW rn hRO n (by omega)) vX1_isTold iX9_turned_24 (rfl) rfl rfl rfl (Nat.le_of_ble_eq_true rfl) ⟨by decide, by decide⟩ (fun v_ N h_ => ?_)
  obtain ⟨rfl, hF, hLv⟩ := h_
  show WA G t_X9_turned (fun v N => v = some (.int (-3)) ∧ EqR (tNote M 4) N) 27 [(0, wm_r G (0)), (1, .int (nI (n))), (2, .int (nI (k)))] [.int (wB (wAny (fwB M w h rn n) 4096))] (N)
  refine wa_eqi (y := (0)) (by rw [hq]; rfl) ?_
  refine wa_if_ne 36 dX9_turned_27 (by decide) (fun c_27 => absurd c_27 (by decide)) (fun c_27 => ?_)
  refine wa_aload_n dX9_turned_30 rfl 0 rfl ?_
  refine wa_iconst (4) dX9_turned_31 (by decide) ?_
  refine wa_cVi (m_find 4 (by decide) (by decide)) vX9_find iX9_turned_32 (rfl) rfl rfl rfl (Nat.le_of_ble_eq_true rfl) ⟨by decide, by decide⟩ ?_
  refine wa_iret dX9_turned_35 rfl ?_
  exact ⟨rfl, (EqR.p hF).note⟩

theorem c_turned_ok {G : wm_G} {M : wm_M} (w h rn s yr : Nat) (ci : CI M w h rn s yr) (n : Nat) (hy : n < 10) (k : Nat) (h1 : 1 ≤ k) (hk : k ≤ n) (hq : wAny (fwB M w h rn n) 4096 = true) : MA G t_X9_turned [wm_r G (0), .int (nI (n)), .int (nI (k))] (M) (fun v N => v = some (.int (nI (wBits (tuB M w h rn n k) (w * h)))) ∧ EqR (tTell M (wB (tnB M w h rn n k))) N) := by
  obtain ⟨⟨hW, hwh⟩, hSt, ⟨h12, h13, hyr, hs4, hsh⟩, hRo, hTx, hLw, hKp, hRO, ⟨hL1, hL10, hL29, hL58⟩, hSe, hDy⟩ := id ci
  have hn6 := TW_n hW
  have hs : s < 4096 := Nat.lt_of_lt_of_le hs4 (p4_le hn6)
  have hw3 := hW.2.2.1
  have hh2 := hW.2.2.2
  refine wm_met (by decide) (Nat.le_of_ble_eq_true rfl) ?_
  show WA G t_X9_turned (fun v N => v = some (.int (nI (wBits (tuB M w h rn n k) (w * h)))) ∧ EqR (tTell M (wB (tnB M w h rn n k))) N) 0 [(0, wm_r G (0)), (1, .int (nI (n))), (2, .int (nI (k)))] [] (M)
  refine wa_iload_n dX9_turned_0 rfl 1 rfl ?_
  refine wa_cSi (m_isTY (nI n)) vX9_isToldYear iX9_turned_1 rfl rfl (Nat.le_of_ble_eq_true rfl) ⟨by decide, by decide⟩ ?_
  refine wa_eqi (y := (1)) (by rw [wIn_nI (by omega), decide_eq_true (by omega)]; rfl) ?_
  refine wa_if_eq 17 dX9_turned_4 (by decide) (fun c_4 => absurd c_4 (by decide)) (fun c_4 => ?_)
  refine wa_iload_n dX9_turned_7 rfl 2 rfl ?_
  refine wa_iconst (1) dX9_turned_8 (by decide) ?_
  refine wa_icmp_ltN (a := k) (b := 1) 17 dX9_turned_9 (by decide) (by omega) (by omega) (fun c_9 => absurd c_9 (by omega)) (fun c_9 => ?_)
  refine wa_iload_n dX9_turned_12 rfl 2 rfl ?_
  refine wa_iload_n dX9_turned_13 rfl 1 rfl ?_
  refine wa_icmp_leN (a := k) (b := n) 19 dX9_turned_14 (by decide) (by omega) (by omega) (fun c_14 => ?_) (fun c_14 => absurd c_14 (by omega))
  refine wa_aload_n dX9_turned_19 rfl 0 rfl ?_
  refine wa_getr gX9_turned_20 (rfl) rfl ?_
  refine wa_iload_n dX9_turned_23 rfl 1 rfl ?_
  refine wa_callV (m_isTold w h hW rn hRO n (by omega)) vX1_isTold iX9_turned_24 (rfl) rfl rfl rfl (Nat.le_of_ble_eq_true rfl) ⟨by decide, by decide⟩ (fun v_ N h_ => ?_)
  obtain ⟨rfl, hF, hLv⟩ := h_
  show WA G t_X9_turned (fun v N => v = some (.int (nI (wBits (tuB M w h rn n k) (w * h)))) ∧ EqR (tTell M (wB (tnB M w h rn n k))) N) 27 [(0, wm_r G (0)), (1, .int (nI (n))), (2, .int (nI (k)))] [.int (wB (wAny (fwB M w h rn n) 4096))] (N)
  refine wa_eqi (y := (1)) (by rw [hq]; rfl) ?_
  refine wa_if_ne 36 dX9_turned_27 (by decide) (fun c_27 => ?_) (fun c_27 => absurd c_27 (by decide))
  refine wa_aload_n dX9_turned_36 rfl 0 rfl ?_
  refine wa_getr gX9_turned_37 (rfl) rfl ?_
  refine wa_aload_n dX9_turned_40 rfl 0 rfl ?_
  refine wa_getr gX9_turned_41 (rfl) rfl ?_
  refine wa_getr gX9_turned_44 (rfl) rfl ?_
  refine wa_iload_n dX9_turned_47 rfl 2 rfl ?_
  refine wa_iconst (1) dX9_turned_48 (by decide) ?_
  refine wa_isubN (a := k) (b := 1) dX9_turned_49 (by omega) ?_
  refine wa_aaldN (e := (k) - (1)) (Or.inr rfl) dX9_turned_50 (rfl) (by omega) (by decide) ?_
  refine wa_aload_n dX9_turned_51 rfl 0 rfl ?_
  refine wa_getr gX9_turned_52 (rfl) rfl ?_
  refine wa_getr gX9_turned_55 (rfl) rfl ?_
  refine wa_iload_n dX9_turned_58 rfl 2 rfl ?_
  refine wa_aaldN (e := k) (Or.inr rfl) dX9_turned_59 (rfl) (by omega) (by decide) ?_
  refine wa_cVi (m_meets (72 + 2 * (k - 1)) (72 + 2 * k) (SSv (k - 1) (by omega)) (SSv k (by omega))) vX3_meets iX9_turned_60 ((SSv (k - 1) (by omega)).1) rfl rfl rfl (Nat.le_of_ble_eq_true rfl) ⟨by decide, by decide⟩ ?_
  refine wa_eqi (y := (wB (tnB M w h rn n k))) (congrArg wB (by rw [meets_any]; unfold tnB; exact wAny_cong (fun s hs => by rw [hLv (k - 1) (by omega) s hs, hLv k (by omega) s hs]; rfl))) ?_
  refine wa_if_eqB 70 dX9_turned_63 (by decide) (fun (c_63 : (tnB M w h rn n k) = false) => ?_) (fun (c_63 : (tnB M w h rn n k) = true) => ?_)
  · refine wa_iconst (0) dX9_turned_70 (by decide) ?_
    refine wa_puti gX9_turned_71 (rfl) rfl ?_
    refine wa_eqm (M' := tTell N (wB (tnB M w h rn n k))) (by rw [show tnB M w h rn n k = _ from c_63]; rfl) ?_
    refine wa_aload_n dX9_turned_74 rfl 0 rfl ?_
    refine wa_getr gX9_turned_75 (rfl) rfl ?_
    refine wa_iload_n dX9_turned_78 rfl 2 rfl ?_
    refine wa_cVi (m_turnedInto (M := tTell N (wB (tnB M w h rn n k))) w h (hW.fr (by unfold tTell; rw [wI_c (by decide), hF.1 17 (by decide)])) k h1 (by omega)) vX1_turnedInto iX9_turned_79 (rfl) rfl rfl rfl (Nat.le_of_ble_eq_true rfl) ⟨by decide, by decide⟩ ?_
    refine wa_eqi (y := (nI (wBits (tuB M w h rn n k) (w * h)))) (congrArg nI (wBits_cong (fun j hj => by
      have e18 : (tTell N (wB (tnB M w h rn n k))).1 18 = M.1 18 := by unfold tTell; rw [wI_c (by decide), hF.1 18 (by decide)]
      unfold tiB tuB wAny; rw [e18]
      exact congrArg (fun q => decide (0 < sStep (M.1 18 j)) && !q) (wAll_cong (fun s hs => by
        have q := sMv_4 (m := 4 - sStep (M.1 18 j)) hs (show j < 6 by omega)
        show (!(sb (N.2.1 _) s && sb (N.2.1 _) _)) = _
        rw [hLv k (by omega) s hs, hLv (k - 1) (by omega) _ q]; rfl))))) ?_
    refine wa_iret dX9_turned_82 rfl ?_
    exact ⟨rfl, (EqR.p hF).tell⟩
  · refine wa_iconst (1) dX9_turned_66 (by decide) ?_
    refine wa_goto 71 dX9_turned_67 (by decide) ?_
    refine wa_puti gX9_turned_71 (rfl) rfl ?_
    refine wa_eqm (M' := tTell N (wB (tnB M w h rn n k))) (by rw [show tnB M w h rn n k = _ from c_63]; rfl) ?_
    refine wa_aload_n dX9_turned_74 rfl 0 rfl ?_
    refine wa_getr gX9_turned_75 (rfl) rfl ?_
    refine wa_iload_n dX9_turned_78 rfl 2 rfl ?_
    refine wa_cVi (m_turnedInto (M := tTell N (wB (tnB M w h rn n k))) w h (hW.fr (by unfold tTell; rw [wI_c (by decide), hF.1 17 (by decide)])) k h1 (by omega)) vX1_turnedInto iX9_turned_79 (rfl) rfl rfl rfl (Nat.le_of_ble_eq_true rfl) ⟨by decide, by decide⟩ ?_
    refine wa_eqi (y := (nI (wBits (tuB M w h rn n k) (w * h)))) (congrArg nI (wBits_cong (fun j hj => by
      have e18 : (tTell N (wB (tnB M w h rn n k))).1 18 = M.1 18 := by unfold tTell; rw [wI_c (by decide), hF.1 18 (by decide)]
      unfold tiB tuB wAny; rw [e18]
      exact congrArg (fun q => decide (0 < sStep (M.1 18 j)) && !q) (wAll_cong (fun s hs => by
        have q := sMv_4 (m := 4 - sStep (M.1 18 j)) hs (show j < 6 by omega)
        show (!(sb (N.2.1 _) s && sb (N.2.1 _) _)) = _
        rw [hLv k (by omega) s hs, hLv (k - 1) (by omega) _ q]; rfl))))) ?_
    refine wa_iret dX9_turned_82 rfl ?_
    exact ⟨rfl, (EqR.p hF).tell⟩

theorem c_odds_bad1 {G : wm_G} {M : wm_M} (n k l : Int32) (hy : wIn n 10 = false) : MD G t_X9_odds [wm_r G (0), .int (n), .int (k), .int (l)] (M) (some (.int (-1))) (M) := by
  refine wm_met (by decide) (Nat.le_of_ble_eq_true rfl) ?_
  show WA G t_X9_odds (fun v_ N_ => v_ = some (.int (-1)) ∧ N_ = M) 0 [(0, wm_r G (0)), (1, .int (n)), (2, .int (k)), (3, .int (l))] [] (M)
  refine wa_iload_n dX9_odds_0 rfl 1 rfl ?_
  refine wa_cSi (m_isTY n) vX9_isToldYear iX9_odds_1 rfl rfl (Nat.le_of_ble_eq_true rfl) ⟨by decide, by decide⟩ ?_
  refine wa_eqi (y := (0)) (by rw [hy]; rfl) ?_
  refine wa_if_eq 16 dX9_odds_4 (by decide) (fun c_4 => ?_) (fun c_4 => absurd c_4 (by decide))
  refine wa_iconst (-1) dX9_odds_16 (by decide) ?_
  exact wa_iret dX9_odds_17 rfl ⟨congrArg (fun z => some (Value.int z)) (rfl), rfl⟩

theorem c_odds_bad2 {G : wm_G} {M : wm_M} (n : Nat) (hy : n < 10) (k l : Int32) (hp : k < 0 ∨ ¬ k ≤ nI n) : MD G t_X9_odds [wm_r G (0), .int (nI (n)), .int (k), .int (l)] (M) (some (.int (-1))) (M) := by
  refine wm_met (by decide) (Nat.le_of_ble_eq_true rfl) ?_
  show WA G t_X9_odds (fun v_ N_ => v_ = some (.int (-1)) ∧ N_ = M) 0 [(0, wm_r G (0)), (1, .int (nI (n))), (2, .int (k)), (3, .int (l))] [] (M)
  refine wa_iload_n dX9_odds_0 rfl 1 rfl ?_
  refine wa_cSi (m_isTY (nI n)) vX9_isToldYear iX9_odds_1 rfl rfl (Nat.le_of_ble_eq_true rfl) ⟨by decide, by decide⟩ ?_
  refine wa_eqi (y := (1)) (by rw [wIn_nI (by omega), decide_eq_true (by omega)]; rfl) ?_
  refine wa_if_eq 16 dX9_odds_4 (by decide) (fun c_4 => absurd c_4 (by decide)) (fun c_4 => ?_)
  refine wa_iload_n dX9_odds_7 rfl 2 rfl ?_
  refine wa_if_lt 16 dX9_odds_8 (by decide) (fun c_8 => ?_) (fun c_8 => ?_)
  · refine wa_iconst (-1) dX9_odds_16 (by decide) ?_
    exact wa_iret dX9_odds_17 rfl ⟨congrArg (fun z => some (Value.int z)) (rfl), rfl⟩
  · refine wa_iload_n dX9_odds_11 rfl 2 rfl ?_
    refine wa_iload_n dX9_odds_12 rfl 1 rfl ?_
    refine wa_icmp_le 18 dX9_odds_13 (by decide) (fun c_13 => absurd hp (fun q => q.elim c_8 (fun q => q c_13))) (fun c_13 => ?_)
    refine wa_iconst (-1) dX9_odds_16 (by decide) ?_
    exact wa_iret dX9_odds_17 rfl ⟨congrArg (fun z => some (Value.int z)) (rfl), rfl⟩

theorem c_odds_bad3 {G : wm_G} {M : wm_M} (n : Nat) (hy : n < 10) (k : Nat) (hk : k ≤ n) (l : Int32) (hr : wIn l 4 = false) : MD G t_X9_odds [wm_r G (0), .int (nI (n)), .int (nI (k)), .int (l)] (M) (some (.int (-1))) (M) := by
  refine wm_met (by decide) (Nat.le_of_ble_eq_true rfl) ?_
  show WA G t_X9_odds (fun v_ N_ => v_ = some (.int (-1)) ∧ N_ = M) 0 [(0, wm_r G (0)), (1, .int (nI (n))), (2, .int (nI (k))), (3, .int (l))] [] (M)
  refine wa_iload_n dX9_odds_0 rfl 1 rfl ?_
  refine wa_cSi (m_isTY (nI n)) vX9_isToldYear iX9_odds_1 rfl rfl (Nat.le_of_ble_eq_true rfl) ⟨by decide, by decide⟩ ?_
  refine wa_eqi (y := (1)) (by rw [wIn_nI (by omega), decide_eq_true (by omega)]; rfl) ?_
  refine wa_if_eq 16 dX9_odds_4 (by decide) (fun c_4 => absurd c_4 (by decide)) (fun c_4 => ?_)
  refine wa_iload_n dX9_odds_7 rfl 2 rfl ?_
  refine wa_if_ltN (a := k) 16 dX9_odds_8 (by decide) (by omega) (fun c_8 => absurd c_8 (by omega)) (fun c_8 => ?_)
  refine wa_iload_n dX9_odds_11 rfl 2 rfl ?_
  refine wa_iload_n dX9_odds_12 rfl 1 rfl ?_
  refine wa_icmp_leN (a := k) (b := n) 18 dX9_odds_13 (by decide) (by omega) (by omega) (fun c_13 => ?_) (fun c_13 => absurd c_13 (by omega))
  refine wa_aload_n dX9_odds_18 rfl 0 rfl ?_
  refine wa_aload_n dX9_odds_19 rfl 0 rfl ?_
  refine wa_getr gX9_odds_20 (rfl) rfl ?_
  refine wa_getr gX9_odds_23 (rfl) rfl ?_
  refine wa_iload_n dX9_odds_26 rfl 3 rfl ?_
  refine wa_cVi (m_ref_bad 29 4 3 TB_laws l hr) vX9_refusal iX9_odds_27 (rfl) rfl rfl rfl (Nat.le_of_ble_eq_true rfl) ⟨by decide, by decide⟩ ?_
  refine wa_istore [(4, .int (-1)), (0, wm_r G (0)), (1, .int (nI (n))), (2, .int (nI (k))), (3, .int (l))] dX9_odds_30 (by decide) rfl ?_
  refine wa_iload dX9_odds_32 0 rfl ?_
  refine wa_if_eq 40 dX9_odds_34 (by decide) (fun c_34 => absurd c_34 (by decide)) (fun c_34 => ?_)
  refine wa_iload dX9_odds_37 0 rfl ?_
  exact wa_iret dX9_odds_39 rfl ⟨congrArg (fun z => some (Value.int z)) (rfl), rfl⟩

theorem c_odds_no {G : wm_G} {M : wm_M} (n : Nat) (hy : n < 10) (k : Nat) (hk : k ≤ n) (l : Nat) (hr : l < 4) (hz : M.1 35 l = -1) : MD G t_X9_odds [wm_r G (0), .int (nI (n)), .int (nI (k)), .int (nI (l))] (M) (some (.int (-3))) (tNote M 1) := by
  refine wm_met (by decide) (Nat.le_of_ble_eq_true rfl) ?_
  show WA G t_X9_odds (fun v_ N_ => v_ = some (.int (-3)) ∧ N_ = tNote M 1) 0 [(0, wm_r G (0)), (1, .int (nI (n))), (2, .int (nI (k))), (3, .int (nI (l)))] [] (M)
  refine wa_iload_n dX9_odds_0 rfl 1 rfl ?_
  refine wa_cSi (m_isTY (nI n)) vX9_isToldYear iX9_odds_1 rfl rfl (Nat.le_of_ble_eq_true rfl) ⟨by decide, by decide⟩ ?_
  refine wa_eqi (y := (1)) (by rw [wIn_nI (by omega), decide_eq_true (by omega)]; rfl) ?_
  refine wa_if_eq 16 dX9_odds_4 (by decide) (fun c_4 => absurd c_4 (by decide)) (fun c_4 => ?_)
  refine wa_iload_n dX9_odds_7 rfl 2 rfl ?_
  refine wa_if_ltN (a := k) 16 dX9_odds_8 (by decide) (by omega) (fun c_8 => absurd c_8 (by omega)) (fun c_8 => ?_)
  refine wa_iload_n dX9_odds_11 rfl 2 rfl ?_
  refine wa_iload_n dX9_odds_12 rfl 1 rfl ?_
  refine wa_icmp_leN (a := k) (b := n) 18 dX9_odds_13 (by decide) (by omega) (by omega) (fun c_13 => ?_) (fun c_13 => absurd c_13 (by omega))
  refine wa_aload_n dX9_odds_18 rfl 0 rfl ?_
  refine wa_aload_n dX9_odds_19 rfl 0 rfl ?_
  refine wa_getr gX9_odds_20 (rfl) rfl ?_
  refine wa_getr gX9_odds_23 (rfl) rfl ?_
  refine wa_iload_n dX9_odds_26 rfl 3 rfl ?_
  refine wa_cVi (m_ref_no 29 4 3 TB_laws l hr hz) vX9_refusal iX9_odds_27 (rfl) rfl rfl rfl (Nat.le_of_ble_eq_true rfl) ⟨by decide, by decide⟩ ?_
  refine wa_istore [(4, .int (-3)), (0, wm_r G (0)), (1, .int (nI (n))), (2, .int (nI (k))), (3, .int (nI (l)))] dX9_odds_30 (by decide) rfl ?_
  refine wa_iload dX9_odds_32 0 rfl ?_
  refine wa_if_eq 40 dX9_odds_34 (by decide) (fun c_34 => absurd c_34 (by decide)) (fun c_34 => ?_)
  refine wa_iload dX9_odds_37 0 rfl ?_
  exact wa_iret dX9_odds_39 rfl ⟨congrArg (fun z => some (Value.int z)) (rfl), rfl⟩

theorem c_odds_nt {G : wm_G} {M : wm_M} (w h rn s yr : Nat) (ci : CI M w h rn s yr) (n : Nat) (hy : n < 10) (k : Nat) (hk : k ≤ n) (l : Nat) (hr : l < 4) (hz : ¬ M.1 35 l = -1) (hq : wAny (fwB M w h rn n) 4096 = false) : MA G t_X9_odds [wm_r G (0), .int (nI (n)), .int (nI (k)), .int (nI (l))] (M) (fun v N => v = some (.int (-3)) ∧ EqR (tNote M 4) N) := by
  obtain ⟨⟨hW, hwh⟩, hSt, ⟨h12, h13, hyr, hs4, hsh⟩, hRo, hTx, hLw, hKp, hRO, ⟨hL1, hL10, hL29, hL58⟩, hSe, hDy⟩ := id ci
  have hn6 := TW_n hW
  have hs : s < 4096 := Nat.lt_of_lt_of_le hs4 (p4_le hn6)
  have hw3 := hW.2.2.1
  have hh2 := hW.2.2.2
  refine wm_met (by decide) (Nat.le_of_ble_eq_true rfl) ?_
  show WA G t_X9_odds (fun v N => v = some (.int (-3)) ∧ EqR (tNote M 4) N) 0 [(0, wm_r G (0)), (1, .int (nI (n))), (2, .int (nI (k))), (3, .int (nI (l)))] [] (M)
  refine wa_iload_n dX9_odds_0 rfl 1 rfl ?_
  refine wa_cSi (m_isTY (nI n)) vX9_isToldYear iX9_odds_1 rfl rfl (Nat.le_of_ble_eq_true rfl) ⟨by decide, by decide⟩ ?_
  refine wa_eqi (y := (1)) (by rw [wIn_nI (by omega), decide_eq_true (by omega)]; rfl) ?_
  refine wa_if_eq 16 dX9_odds_4 (by decide) (fun c_4 => absurd c_4 (by decide)) (fun c_4 => ?_)
  refine wa_iload_n dX9_odds_7 rfl 2 rfl ?_
  refine wa_if_ltN (a := k) 16 dX9_odds_8 (by decide) (by omega) (fun c_8 => absurd c_8 (by omega)) (fun c_8 => ?_)
  refine wa_iload_n dX9_odds_11 rfl 2 rfl ?_
  refine wa_iload_n dX9_odds_12 rfl 1 rfl ?_
  refine wa_icmp_leN (a := k) (b := n) 18 dX9_odds_13 (by decide) (by omega) (by omega) (fun c_13 => ?_) (fun c_13 => absurd c_13 (by omega))
  refine wa_aload_n dX9_odds_18 rfl 0 rfl ?_
  refine wa_aload_n dX9_odds_19 rfl 0 rfl ?_
  refine wa_getr gX9_odds_20 (rfl) rfl ?_
  refine wa_getr gX9_odds_23 (rfl) rfl ?_
  refine wa_iload_n dX9_odds_26 rfl 3 rfl ?_
  refine wa_cVi (m_ref_ok 29 4 3 TB_laws l hr hz) vX9_refusal iX9_odds_27 (rfl) rfl rfl rfl (Nat.le_of_ble_eq_true rfl) ⟨by decide, by decide⟩ ?_
  refine wa_istore [(4, .int (0)), (0, wm_r G (0)), (1, .int (nI (n))), (2, .int (nI (k))), (3, .int (nI (l)))] dX9_odds_30 (by decide) rfl ?_
  refine wa_iload dX9_odds_32 0 rfl ?_
  refine wa_if_eq 40 dX9_odds_34 (by decide) (fun c_34 => ?_) (fun c_34 => absurd c_34 (by decide))
  refine wa_aload_n dX9_odds_40 rfl 1 rfl ?_
  refine wa_getr gX9_odds_41 (rfl) rfl ?_
  refine wa_iload_n dX9_odds_44 rfl 2 rfl ?_
  refine wa_callV (m_isTold w h hW rn hRO n (by omega)) vX1_isTold iX9_odds_45 (rfl) rfl rfl rfl (Nat.le_of_ble_eq_true rfl) ⟨by decide, by decide⟩ (fun v_ N h_ => ?_)
  obtain ⟨rfl, hF, hLv⟩ := h_
  show WA G t_X9_odds (fun v N => v = some (.int (-3)) ∧ EqR (tNote M 4) N) 48 [(4, .int (0)), (0, wm_r G (0)), (1, .int (nI (n))), (2, .int (nI (k))), (3, .int (nI (l)))] [.int (wB (wAny (fwB M w h rn n) 4096))] (N)
  refine wa_eqi (y := (0)) (by rw [hq]; rfl) ?_
  refine wa_if_ne 57 dX9_odds_48 (by decide) (fun c_48 => absurd c_48 (by decide)) (fun c_48 => ?_)
  refine wa_aload_n dX9_odds_51 rfl 1 rfl ?_
  refine wa_iconst (4) dX9_odds_52 (by decide) ?_
  refine wa_cVi (m_find 4 (by decide) (by decide)) vX9_find iX9_odds_53 (rfl) rfl rfl rfl (Nat.le_of_ble_eq_true rfl) ⟨by decide, by decide⟩ ?_
  refine wa_iret dX9_odds_56 rfl ?_
  exact ⟨rfl, (EqR.p hF).note⟩

theorem c_odds_ok {G : wm_G} {M : wm_M} (w h rn s yr : Nat) (ci : CI M w h rn s yr) (n : Nat) (hy : n < 10) (k : Nat) (hk : k ≤ n) (l : Nat) (hr : l < 4) (hz : ¬ M.1 35 l = -1) (hq : wAny (fwB M w h rn n) 4096 = true) (hp : 0 < hvN M w h rn n) : MA G t_X9_odds [wm_r G (0), .int (nI (n)), .int (nI (k)), .int (nI (l))] (M) (fun v N => v = some (.int 1) ∧ EqR (tFrac M (ovN M w h rn n k l) (hvN M w h rn n)) N) := by
  obtain ⟨⟨hW, hwh⟩, hSt, ⟨h12, h13, hyr, hs4, hsh⟩, hRo, hTx, hLw, hKp, hRO, ⟨hL1, hL10, hL29, hL58⟩, hSe, hDy⟩ := id ci
  have hn6 := TW_n hW
  have hs : s < 4096 := Nat.lt_of_lt_of_le hs4 (p4_le hn6)
  have hw3 := hW.2.2.1
  have hh2 := hW.2.2.2
  have hvl := hv_le (M := M) (w := w) (h := h) (rn := rn) (n := n) hn6 (by omega)
  have hol := ov_le (M := M) (w := w) (h := h) (rn := rn) (n := n) (y := k) (l := l) hn6 (by omega) hk
  refine wm_met (by decide) (Nat.le_of_ble_eq_true rfl) ?_
  show WA G t_X9_odds (fun v N => v = some (.int 1) ∧ EqR (tFrac M (ovN M w h rn n k l) (hvN M w h rn n)) N) 0 [(0, wm_r G (0)), (1, .int (nI (n))), (2, .int (nI (k))), (3, .int (nI (l)))] [] (M)
  refine wa_iload_n dX9_odds_0 rfl 1 rfl ?_
  refine wa_cSi (m_isTY (nI n)) vX9_isToldYear iX9_odds_1 rfl rfl (Nat.le_of_ble_eq_true rfl) ⟨by decide, by decide⟩ ?_
  refine wa_eqi (y := (1)) (by rw [wIn_nI (by omega), decide_eq_true (by omega)]; rfl) ?_
  refine wa_if_eq 16 dX9_odds_4 (by decide) (fun c_4 => absurd c_4 (by decide)) (fun c_4 => ?_)
  refine wa_iload_n dX9_odds_7 rfl 2 rfl ?_
  refine wa_if_ltN (a := k) 16 dX9_odds_8 (by decide) (by omega) (fun c_8 => absurd c_8 (by omega)) (fun c_8 => ?_)
  refine wa_iload_n dX9_odds_11 rfl 2 rfl ?_
  refine wa_iload_n dX9_odds_12 rfl 1 rfl ?_
  refine wa_icmp_leN (a := k) (b := n) 18 dX9_odds_13 (by decide) (by omega) (by omega) (fun c_13 => ?_) (fun c_13 => absurd c_13 (by omega))
  refine wa_aload_n dX9_odds_18 rfl 0 rfl ?_
  refine wa_aload_n dX9_odds_19 rfl 0 rfl ?_
  refine wa_getr gX9_odds_20 (rfl) rfl ?_
  refine wa_getr gX9_odds_23 (rfl) rfl ?_
  refine wa_iload_n dX9_odds_26 rfl 3 rfl ?_
  refine wa_cVi (m_ref_ok 29 4 3 TB_laws l hr hz) vX9_refusal iX9_odds_27 (rfl) rfl rfl rfl (Nat.le_of_ble_eq_true rfl) ⟨by decide, by decide⟩ ?_
  refine wa_istore [(4, .int (0)), (0, wm_r G (0)), (1, .int (nI (n))), (2, .int (nI (k))), (3, .int (nI (l)))] dX9_odds_30 (by decide) rfl ?_
  refine wa_iload dX9_odds_32 0 rfl ?_
  refine wa_if_eq 40 dX9_odds_34 (by decide) (fun c_34 => ?_) (fun c_34 => absurd c_34 (by decide))
  refine wa_aload_n dX9_odds_40 rfl 1 rfl ?_
  refine wa_getr gX9_odds_41 (rfl) rfl ?_
  refine wa_iload_n dX9_odds_44 rfl 2 rfl ?_
  refine wa_callV (m_isTold w h hW rn hRO n (by omega)) vX1_isTold iX9_odds_45 (rfl) rfl rfl rfl (Nat.le_of_ble_eq_true rfl) ⟨by decide, by decide⟩ (fun v_ N h_ => ?_)
  obtain ⟨rfl, hF, hLv⟩ := h_
  show WA G t_X9_odds (fun v N => v = some (.int 1) ∧ EqR (tFrac M (ovN M w h rn n k l) (hvN M w h rn n)) N) 48 [(4, .int (0)), (0, wm_r G (0)), (1, .int (nI (n))), (2, .int (nI (k))), (3, .int (nI (l)))] [.int (wB (wAny (fwB M w h rn n) 4096))] (N)
  refine wa_eqi (y := (1)) (by rw [hq]; rfl) ?_
  refine wa_if_ne 57 dX9_odds_48 (by decide) (fun c_48 => ?_) (fun c_48 => absurd c_48 (by decide))
  refine wa_aload_n dX9_odds_57 rfl 1 rfl ?_
  refine wa_getr gX9_odds_58 (rfl) rfl ?_
  refine wa_aload_n dX9_odds_61 rfl 1 rfl ?_
  refine wa_getr gX9_odds_62 (rfl) rfl ?_
  refine wa_iload_n dX9_odds_65 rfl 2 rfl ?_
  refine wa_iload_n dX9_odds_66 rfl 3 rfl ?_
  refine wa_aload_n dX9_odds_67 rfl 1 rfl ?_
  refine wa_getr gX9_odds_68 (rfl) rfl ?_
  refine wa_getr gX9_odds_71 (rfl) rfl ?_
  refine wa_iload_n dX9_odds_74 rfl 4 rfl ?_
  refine wa_aaldN (e := l) (Or.inr rfl) dX9_odds_75 (rfl) (by omega) (by decide) ?_
  refine wa_callV (m_waysBy w h (hF.w hW) rn (hF.r hRO) n (by omega) (N.2.2 0) rfl (by rw [hF.2.2]; exact hDy) (fun k s => lvB M w h rn n (n - k) s) hLv k (38 + 2 * l) hk (SSl l hr)) vX1_waysBy iX9_odds_76 (rfl) rfl rfl rfl (Nat.le_of_ble_eq_true rfl) ⟨by decide, by decide⟩ (fun v_ N1 h_ => ?_)
  obtain ⟨rfl, hF1, hd1⟩ := h_
  show WA G t_X9_odds (fun v N => v = some (.int 1) ∧ EqR (tFrac M (ovN M w h rn n k l) (hvN M w h rn n)) N) 79 [(4, .int (0)), (0, wm_r G (0)), (1, .int (nI (n))), (2, .int (nI (k))), (3, .int (nI (l)))] [.int (nI (wSum (wyN (N.1 18) (w * h) (kpB (fun k s => lvB M w h rn n (n - k) s) (nI k) (sb (N.2.1 (38 + 2 * l + 1)))) (max k (lastT N n rn))) (4 ^ (w * h)) * chN (N.1 18) (w * h) ^ (n - max k (lastT N n rn)))), wm_r G (92)] (N1)
  refine wa_eqi (y := (nI (ovN M w h rn n k l))) (congrArg nI (ov_eq (hF.1 18 (by decide)) (hF.1 55 (by decide)) (hF.2.1 _ (by omega)))) ?_
  refine wa_i2l dX9_odds_79 ?_
  refine wa_eql (y := lN (ovN M w h rn n k l)) (nI_l (by omega)) ?_
  refine wa_aload_n dX9_odds_80 rfl 1 rfl ?_
  refine wa_getr gX9_odds_81 (rfl) rfl ?_
  refine wa_iload_n dX9_odds_84 rfl 2 rfl ?_
  refine wa_callV (m_allWays w h ((hF.w hW).fr (hF1.1 17 (by decide) (by decide))) rn ((hF.r hRO).fr (hF1.1 54 (by decide) (by decide)) (hF1.1 55 (by decide) (by decide)) (hF1.1 56 (by decide) (by decide)) (hF1.1 57 (by decide) (by decide)) (hF1.1 64 (by decide) (by decide))) n (by omega) (N1.2.2 0) rfl (hd1) (fun k s => lvB M w h rn n (n - k) s) (fun k hk s hs => by rw [hF1.2.1]; exact hLv k hk s hs)) vX1_allWays iX9_odds_85 (rfl) rfl rfl rfl (Nat.le_of_ble_eq_true rfl) ⟨by decide, by decide⟩ (fun v_ N2 h_ => ?_)
  obtain ⟨rfl, hF2, hd2⟩ := h_
  show WA G t_X9_odds (fun v N => v = some (.int 1) ∧ EqR (tFrac M (ovN M w h rn n k l) (hvN M w h rn n)) N) 88 [(4, .int (0)), (0, wm_r G (0)), (1, .int (nI (n))), (2, .int (nI (k))), (3, .int (nI (l)))] [.int (nI (wSum (wyN (N1.1 18) (w * h) (kpB (fun k s => lvB M w h rn n (n - k) s) (-9) (sb (N1.2.1 (67 + 1)))) (lastT N1 n rn)) (4 ^ (w * h)) * chN (N1.1 18) (w * h) ^ (n - lastT N1 n rn))), .long (lN (ovN M w h rn n k l)), wm_r G (92)] (N2)
  refine wa_eqi (y := (nI (hvN M w h rn n))) (congrArg nI (hv_eq ((hF1.1 18 (by decide) (by decide)).trans (hF.1 18 (by decide))) ((hF1.1 55 (by decide) (by decide)).trans (hF.1 55 (by decide))) hn6 (by omega))) ?_
  refine wa_i2l dX9_odds_88 ?_
  refine wa_eql (y := lN (hvN M w h rn n)) (nI_l (by omega)) ?_
  refine wa_cVv (m_tfrac (ovN M w h rn n k l) (hvN M w h rn n) (by omega) (by omega) hp) vX6_fraction iX9_odds_89 (rfl) rfl rfl rfl (Nat.le_of_ble_eq_true rfl) ⟨by decide, by decide⟩ ?_
  refine wa_iconst (1) dX9_odds_92 (by decide) ?_
  refine wa_iret dX9_odds_93 rfl ?_
  exact ⟨rfl, (((EqR.p hF).tr (EqR.w hF1 hd1)).tr (EqR.w hF2 hd2)).frac⟩
