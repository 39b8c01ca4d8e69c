theorem m_stonesTake {G : wm_G} {M : wm_M} : MA G t_X4_take [wm_r G (17), wm_r G (22)] (M) (fun v N => v = none ∧ (∀ c, c < 17 ∨ 21 < c → N.1 c = M.1 c) ∧ N.2 = M.2 ∧ N.1 17 0 = M.1 22 0 ∧ N.1 17 1 = M.1 22 1 ∧ (∀ j, j < 6 → N.1 18 j = M.1 23 j) ∧ (∀ j, j < 24 → N.1 19 j = M.1 24 j) ∧ (∀ j, j < 6 → N.1 20 j = M.1 25 j) ∧ ∀ j, j < 6 → N.1 21 j = M.1 26 j) := by
  refine wm_met (by decide) (Nat.le_of_ble_eq_true rfl) ?_
  show WA G t_X4_take (fun v N => v = none ∧ (∀ c, c < 17 ∨ 21 < c → N.1 c = M.1 c) ∧ N.2 = M.2 ∧ N.1 17 0 = M.1 22 0 ∧ N.1 17 1 = M.1 22 1 ∧ (∀ j, j < 6 → N.1 18 j = M.1 23 j) ∧ (∀ j, j < 24 → N.1 19 j = M.1 24 j) ∧ (∀ j, j < 6 → N.1 20 j = M.1 25 j) ∧ ∀ j, j < 6 → N.1 21 j = M.1 26 j) 0 [(0, wm_r G (17)), (1, wm_r G (22))] [] (M)
  refine wa_aload_n dX4_take_0 rfl 0 rfl ?_
  refine wa_aload_n dX4_take_1 rfl 1 rfl ?_
  refine wa_geti gX4_take_2 (rfl) rfl ?_
  refine wa_puti gX4_take_5 (rfl) rfl ?_
  refine wa_aload_n dX4_take_8 rfl 0 rfl ?_
  refine wa_aload_n dX4_take_9 rfl 1 rfl ?_
  refine wa_geti gX4_take_10 (rfl) rfl ?_
  refine wa_puti gX4_take_13 (rfl) rfl ?_
  refine wa_top (fun N1 e_N1 => ?_)
  refine wa_aload_n dX4_take_16 rfl 1 rfl ?_
  refine wa_getr gX4_take_17 (rfl) rfl ?_
  refine wa_iconst (0) dX4_take_20 (by decide) ?_
  refine wa_aload_n dX4_take_21 rfl 0 rfl ?_
  refine wa_getr gX4_take_22 (rfl) rfl ?_
  refine wa_iconst (0) dX4_take_25 (by decide) ?_
  refine wa_bipush (6) dX4_take_26 (by decide) ?_
  refine wa_copyi iX4_take_28 (rfl) (rfl) (by decide) (by decide) (by decide) (by decide) (by decide) ⟨by decide, Nat.le_of_ble_eq_true rfl⟩ ?_
  refine wa_eqm (M' := wIa N1 18 (va_cpy (N1.1 23) (N1.1 18) 0 0 6)) (rfl) ?_
  refine wa_top (fun N2 e_N2 => ?_)
  refine wa_aload_n dX4_take_31 rfl 1 rfl ?_
  refine wa_getr gX4_take_32 (rfl) rfl ?_
  refine wa_iconst (0) dX4_take_35 (by decide) ?_
  refine wa_aload_n dX4_take_36 rfl 0 rfl ?_
  refine wa_getr gX4_take_37 (rfl) rfl ?_
  refine wa_iconst (0) dX4_take_40 (by decide) ?_
  refine wa_bipush (24) dX4_take_41 (by decide) ?_
  refine wa_copyi iX4_take_43 (rfl) (rfl) (by decide) (by decide) (by decide) (by decide) (by decide) ⟨by decide, Nat.le_of_ble_eq_true rfl⟩ ?_
  refine wa_eqm (M' := wIa N2 19 (va_cpy (N2.1 24) (N2.1 19) 0 0 24)) (rfl) ?_
  refine wa_top (fun N3 e_N3 => ?_)
  refine wa_aload_n dX4_take_46 rfl 1 rfl ?_
  refine wa_getr gX4_take_47 (rfl) rfl ?_
  refine wa_iconst (0) dX4_take_50 (by decide) ?_
  refine wa_aload_n dX4_take_51 rfl 0 rfl ?_
  refine wa_getr gX4_take_52 (rfl) rfl ?_
  refine wa_iconst (0) dX4_take_55 (by decide) ?_
  refine wa_bipush (6) dX4_take_56 (by decide) ?_
  refine wa_copyi iX4_take_58 (rfl) (rfl) (by decide) (by decide) (by decide) (by decide) (by decide) ⟨by decide, Nat.le_of_ble_eq_true rfl⟩ ?_
  refine wa_eqm (M' := wIa N3 20 (va_cpy (N3.1 25) (N3.1 20) 0 0 6)) (rfl) ?_
  refine wa_top (fun N4 e_N4 => ?_)
  refine wa_aload_n dX4_take_61 rfl 1 rfl ?_
  refine wa_getr gX4_take_62 (rfl) rfl ?_
  refine wa_iconst (0) dX4_take_65 (by decide) ?_
  refine wa_aload_n dX4_take_66 rfl 0 rfl ?_
  refine wa_getr gX4_take_67 (rfl) rfl ?_
  refine wa_iconst (0) dX4_take_70 (by decide) ?_
  refine wa_bipush (6) dX4_take_71 (by decide) ?_
  refine wa_copyi iX4_take_73 (rfl) (rfl) (by decide) (by decide) (by decide) (by decide) (by decide) ⟨by decide, Nat.le_of_ble_eq_true rfl⟩ ?_
  refine wa_eqm (M' := wIa N4 21 (va_cpy (N4.1 26) (N4.1 21) 0 0 6)) (rfl) ?_
  refine wa_top (fun N5 e_N5 => ?_)
  refine wa_vret dX4_take_76 rfl ?_
  have g5 : ∀ c, c ≠ 21 → N5.1 c = N4.1 c := fun c hc => by rw [e_N5, wIa_n hc]
  have g4 : ∀ c, c ≠ 20 → N4.1 c = N3.1 c := fun c hc => by rw [e_N4, wIa_n hc]
  have g3 : ∀ c, c ≠ 19 → N3.1 c = N2.1 c := fun c hc => by rw [e_N3, wIa_n hc]
  have g2 : ∀ c, c ≠ 18 → N2.1 c = N1.1 c := fun c hc => by rw [e_N2, wIa_n hc]
  have g1 : ∀ c, c ≠ 17 → N1.1 c = M.1 c := fun c hc => by rw [e_N1, wI_c hc, wI_c hc]
  refine ⟨rfl, fun c hc => by rw [g5 c (by omega), g4 c (by omega), g3 c (by omega), g2 c (by omega), g1 c (by omega)], by rw [e_N5, wIa_2, e_N4, wIa_2, e_N3, wIa_2, e_N2, wIa_2, e_N1]; rfl, ?_, ?_, ?_, ?_, ?_, ?_⟩
  · rw [g5 17 (by decide), g4 17 (by decide), g3 17 (by decide), g2 17 (by decide), e_N1, wI_ne (by decide), wI_at]
  · rw [g5 17 (by decide), g4 17 (by decide), g3 17 (by decide), g2 17 (by decide), e_N1, wI_at, wI_c (by decide)]
  · intro j hj; rw [g5 18 (by decide), g4 18 (by decide), g3 18 (by decide), e_N2, wIa_s, cpy0 hj, g1 23 (by decide)]
  · intro j hj; rw [g5 19 (by decide), g4 19 (by decide), e_N3, wIa_s, cpy0 hj, g2 24 (by decide), g1 24 (by decide)]
  · intro j hj; rw [g5 20 (by decide), e_N4, wIa_s, cpy0 hj, g3 25 (by decide), g2 25 (by decide), g1 25 (by decide)]
  · intro j hj; rw [e_N5, wIa_s, cpy0 hj, g4 26 (by decide), g3 26 (by decide), g2 26 (by decide), g1 26 (by decide)]

theorem m_pmeetFitting {G : wm_G} {M : wm_M} (w h : Nat) (hW : TW M w h) (rn : Nat) (hRO : RecOk M w h rn) (y : Nat) (hy : y ≤ 9) : MA G t_X1_meetFitting [wm_r G (65), .int (nI (y))] (M) (fun v N => v = none ∧ FrP M N ∧ (∀ c, c ≠ 68 → c ≠ (72 + 2 * y + 1) → N.2.1 c = M.2.1 c) ∧ ∀ s, s < 4096 → sb (N.2.1 (72 + 2 * y + 1)) s = (sb (M.2.1 (72 + 2 * y + 1)) s && (prodB (hadN (M.1 18) (w * h)) s && fitB M w h rn y s))) := by
  have hn6 := TW_n hW
  obtain ⟨-, -, hw3, hh2⟩ := id hW
  refine wm_met (by decide) (Nat.le_of_ble_eq_true rfl) ?_
  show WA G t_X1_meetFitting (fun v N => v = none ∧ FrP M N ∧ (∀ c, c ≠ 68 → c ≠ (72 + 2 * y + 1) → N.2.1 c = M.2.1 c) ∧ ∀ s, s < 4096 → sb (N.2.1 (72 + 2 * y + 1)) s = (sb (M.2.1 (72 + 2 * y + 1)) s && (prodB (hadN (M.1 18) (w * h)) s && fitB M w h rn y s))) 0 [(0, wm_r G (65)), (1, .int (nI (y)))] [] (M)
  refine wa_aload_n dX1_meetFitting_0 rfl 0 rfl ?_
  refine wa_getr gX1_meetFitting_1 (rfl) rfl ?_
  refine wa_aload_n dX1_meetFitting_4 rfl 0 rfl ?_
  refine wa_getr gX1_meetFitting_5 (rfl) rfl ?_
  refine wa_cVv (m_quartersHad w h hW 69 rfl (by decide) (by decide)) vX4_quartersHad iX1_meetFitting_8 (rfl) rfl rfl rfl (Nat.le_of_ble_eq_true rfl) ⟨by decide, by decide⟩ ?_
  refine wa_top (fun N1 e_N1 => ?_)
  have hF1 : FrP M N1 := by rw [e_N1]; exact FrP.I
  refine wa_aload_n dX1_meetFitting_11 rfl 0 rfl ?_
  refine wa_getr gX1_meetFitting_12 (rfl) rfl ?_
  refine wa_iload_n dX1_meetFitting_15 rfl 1 rfl ?_
  refine wa_aload_n dX1_meetFitting_16 rfl 0 rfl ?_
  refine wa_getr gX1_meetFitting_17 (rfl) rfl ?_
  refine wa_callV (m_rmeetFitting w h (hF1.w hW) rn y (hadN (M.1 18) (w * h)) (hF1.r hRO) (by omega) (fun j hj => ⟨by rw [e_N1]; exact had_at hj, hadN_lt _ _ _⟩)) vX2_meetFitting iX1_meetFitting_20 (rfl) rfl rfl rfl (Nat.le_of_ble_eq_true rfl) ⟨by decide, by decide⟩ (fun v_ N2 h_ => ?_)
  obtain ⟨rfl, hF2, qb, hqb⟩ := h_
  show WA G t_X1_meetFitting (fun v N => v = none ∧ FrP M N ∧ (∀ c, c ≠ 68 → c ≠ (72 + 2 * y + 1) → N.2.1 c = M.2.1 c) ∧ ∀ s, s < 4096 → sb (N.2.1 (72 + 2 * y + 1)) s = (sb (M.2.1 (72 + 2 * y + 1)) s && (prodB (hadN (M.1 18) (w * h)) s && fitB M w h rn y s))) 23 [(0, wm_r G (65)), (1, .int (nI (y)))] [] (N2)
  have hpf : ∀ s, prodB qb s = (prodB (hadN (M.1 18) (w * h)) s && fitB M w h rn y s) := fun s => by
    rw [prod_fit (M := N1) (hn := hadN (M.1 18) (w * h)) hn6 ((hF1.r hRO).es (by omega)) hqb.2, hF1.fit hRO.2.1]
  refine wa_aload_n dX1_meetFitting_23 rfl 0 rfl ?_
  refine wa_getr gX1_meetFitting_24 (rfl) rfl ?_
  refine wa_cVv (m_clear 67 SS_67) vX3_clear iX1_meetFitting_27 (rfl) rfl rfl rfl (Nat.le_of_ble_eq_true rfl) ⟨by decide, by decide⟩ ?_
  refine wa_aload_n dX1_meetFitting_30 rfl 0 rfl ?_
  refine wa_getr gX1_meetFitting_31 (rfl) rfl ?_
  refine wa_aload_n dX1_meetFitting_34 rfl 0 rfl ?_
  refine wa_getr gX1_meetFitting_35 (rfl) rfl ?_
  refine wa_cVv (m_joinProduct 67 SS_67 69 rfl qb hqb.1) vX3_joinProduct iX1_meetFitting_38 (rfl) rfl rfl rfl (Nat.le_of_ble_eq_true rfl) ⟨by decide, by decide⟩ ?_
  refine wa_top (fun N3 e_N3 => ?_)
  refine wa_aload_n dX1_meetFitting_41 rfl 0 rfl ?_
  refine wa_getr gX1_meetFitting_42 (rfl) rfl ?_
  refine wa_iload_n dX1_meetFitting_45 rfl 1 rfl ?_
  refine wa_aaldN (e := y) (Or.inr rfl) dX1_meetFitting_46 (rfl) (by omega) (by decide) ?_
  refine wa_aload_n dX1_meetFitting_47 rfl 0 rfl ?_
  refine wa_getr gX1_meetFitting_48 (rfl) rfl ?_
  refine wa_cVv (m_meet (72 + 2 * y) 67 (SSv y (by omega)) SS_67 (by omega)) vX3_meet iX1_meetFitting_51 ((SSv y (by omega)).1) rfl rfl rfl (Nat.le_of_ble_eq_true rfl) ⟨by decide, by decide⟩ ?_
  refine wa_vret dX1_meetFitting_54 rfl ?_
  have hF3 : FrP N2 N3 := by rw [e_N3]; exact (FrP.J (by decide)).tr (FrP.J (by decide))
  have h3 : ∀ c, c ≠ 68 → N3.2.1 c = M.2.1 c := fun c hc => by rw [e_N3, wJa_n hc, wJa_n hc, hF2.2.1 c (by simp), e_N1]; rfl
  refine ⟨rfl, ((hF1.tr hF2.P).tr hF3).tr (FrP.J (by omega)), fun c hc hd => by rw [wJa_n hd, h3 c hc], fun s hs => ?_⟩
  rw [wJa_s, sb_meet hs, h3 _ (by omega), e_N3, wJa_s, sb_jp (fun j hj => (hqb.1 j hj).2) hs, wJa_s, sb_fill hs, Bool.false_or, hpf]

theorem m_meetAhead {G : wm_G} {M : wm_M} (w h : Nat) (hW : TW M w h) (y : Nat) (hy1 : 1 ≤ y) (hy : y ≤ 9) : MA G t_X1_meetAhead [wm_r G (65), .int (nI (y))] (M) (fun v N => v = none ∧ FrP M N ∧ (∀ c, c ≠ 68 → c ≠ (72 + 2 * (y - 1) + 1) → N.2.1 c = M.2.1 c) ∧ ∀ s, s < 4096 → sb (N.2.1 (72 + 2 * (y - 1) + 1)) s = (sb (M.2.1 (72 + 2 * (y - 1) + 1)) s && (sb (M.2.1 (72 + 2 * y + 1)) s || wAny (fun j => decide (0 < sStep (M.1 18 j)) && sb (M.2.1 (72 + 2 * y + 1)) (sMv s j (sStep (M.1 18 j)))) (w * h)))) := by
  have hn6 := TW_n hW
  refine wm_met (by decide) (Nat.le_of_ble_eq_true rfl) ?_
  show WA G t_X1_meetAhead (fun v N => v = none ∧ FrP M N ∧ (∀ c, c ≠ 68 → c ≠ (72 + 2 * (y - 1) + 1) → N.2.1 c = M.2.1 c) ∧ ∀ s, s < 4096 → sb (N.2.1 (72 + 2 * (y - 1) + 1)) s = (sb (M.2.1 (72 + 2 * (y - 1) + 1)) s && (sb (M.2.1 (72 + 2 * y + 1)) s || wAny (fun j => decide (0 < sStep (M.1 18 j)) && sb (M.2.1 (72 + 2 * y + 1)) (sMv s j (sStep (M.1 18 j)))) (w * h)))) 0 [(0, wm_r G (65)), (1, .int (nI (y)))] [] (M)
  refine wa_aload_n dX1_meetAhead_0 rfl 0 rfl ?_
  refine wa_getr gX1_meetAhead_1 (rfl) rfl ?_
  refine wa_aload_n dX1_meetAhead_4 rfl 0 rfl ?_
  refine wa_getr gX1_meetAhead_5 (rfl) rfl ?_
  refine wa_iload_n dX1_meetAhead_8 rfl 1 rfl ?_
  refine wa_aaldN (e := y) (Or.inr rfl) dX1_meetAhead_9 (rfl) (by omega) (by decide) ?_
  refine wa_cVv (m_stake 67 (72 + 2 * y) SS_67 (SSv y (by omega))) vX3_take iX1_meetAhead_10 (rfl) rfl rfl rfl (Nat.le_of_ble_eq_true rfl) ⟨by decide, by decide⟩ ?_
  refine wa_iconst (0) dX1_meetAhead_13 (by decide) ?_
  refine wa_istore_n [(2, .int (0)), (0, wm_r G (65)), (1, .int (nI (y)))] dX1_meetAhead_14 rfl (by decide) rfl ?_
  have L_15 : ∀ (n_ : Nat) (j : Nat) (N : wm_M), (w * h - j) < n_ → (j ≤ w * h) → (FrP M N) → (∀ c, c ≠ 68 → N.2.1 c = M.2.1 c) → (∀ s, s < 4096 → sb (N.2.1 (67 + 1)) s = (sb (M.2.1 (72 + 2 * y + 1)) s || wAny (fun j => decide (0 < sStep (M.1 18 j)) && sb (M.2.1 (72 + 2 * y + 1)) (sMv s j (sStep (M.1 18 j)))) j)) → WA G t_X1_meetAhead (fun v N => v = none ∧ FrP M N ∧ (∀ c, c ≠ 68 → c ≠ (72 + 2 * (y - 1) + 1) → N.2.1 c = M.2.1 c) ∧ ∀ s, s < 4096 → sb (N.2.1 (72 + 2 * (y - 1) + 1)) s = (sb (M.2.1 (72 + 2 * (y - 1) + 1)) s && (sb (M.2.1 (72 + 2 * y + 1)) s || wAny (fun j => decide (0 < sStep (M.1 18 j)) && sb (M.2.1 (72 + 2 * y + 1)) (sMv s j (sStep (M.1 18 j)))) (w * h)))) 15 [(2, .int (nI (j))), (0, wm_r G (65)), (1, .int (nI (y)))] [] (N) := by
    intro n_
    induction n_ with
    | zero => intro j N h_; exact absurd h_ (Nat.not_lt_zero _)
    | succ n_ ih_15 =>
      intro j N h_ hj hF hc9 hsp
      have hWN := FrP.w hF hW
      have h18N : N.1 18 = M.1 18 := hF.1 18 (by decide)
      refine wa_iload_n dX1_meetAhead_15 rfl 0 rfl ?_
      refine wa_aload_n dX1_meetAhead_16 rfl 1 rfl ?_
      refine wa_getr gX1_meetAhead_17 (rfl) rfl ?_
      refine wa_cVi (m_number 17 w h SO_17 hWN.1 hWN.2.1) vX4_number iX1_meetAhead_20 (rfl) rfl rfl rfl (Nat.le_of_ble_eq_true rfl) ⟨by decide, by decide⟩ ?_
      refine wa_icmp_geN (a := j) (b := w * h) 67 dX1_meetAhead_23 (by decide) (by omega) (by omega) (fun c_23 => ?_) (fun c_23 => ?_)
      · refine wa_aload_n dX1_meetAhead_67 rfl 1 rfl ?_
        refine wa_getr gX1_meetAhead_68 (rfl) rfl ?_
        refine wa_iload_n dX1_meetAhead_71 rfl 2 rfl ?_
        refine wa_iconst (1) dX1_meetAhead_72 (by decide) ?_
        refine wa_isubN (a := y) (b := 1) dX1_meetAhead_73 (by omega) ?_
        refine wa_aaldN (e := (y) - (1)) (Or.inr rfl) dX1_meetAhead_74 (rfl) (by omega) (by decide) ?_
        refine wa_aload_n dX1_meetAhead_75 rfl 1 rfl ?_
        refine wa_getr gX1_meetAhead_76 (rfl) rfl ?_
        refine wa_cVv (m_meet (72 + 2 * (y - 1)) 67 (SSv (y - 1) (by omega)) SS_67 (by omega)) vX3_meet iX1_meetAhead_79 ((SSv (y - 1) (by omega)).1) rfl rfl rfl (Nat.le_of_ble_eq_true rfl) ⟨by decide, by decide⟩ ?_
        refine wa_vret dX1_meetAhead_82 rfl ?_
        exact ⟨rfl, hF.tr (FrP.J (by omega)), fun c hc hd => by rw [wJa_n hd, hc9 c hc], fun s hs => by rw [wJa_s, sb_meet hs, hc9 _ (by omega), hsp s hs, show j = w * h by omega]⟩
      · refine wa_aload_n dX1_meetAhead_26 rfl 1 rfl ?_
        refine wa_getr gX1_meetAhead_27 (rfl) rfl ?_
        refine wa_iload_n dX1_meetAhead_30 rfl 0 rfl ?_
        refine wa_cVi (m_step j (by omega)) vX4_step iX1_meetAhead_31 (rfl) rfl rfl rfl (Nat.le_of_ble_eq_true rfl) ⟨by decide, by decide⟩ ?_
        refine wa_eqi (y := (nI (sStep (M.1 18 j)))) (by rw [h18N]) ?_
        refine wa_if_leN (a := sStep (M.1 18 j)) 61 dX1_meetAhead_34 (by decide) (Nat.lt_of_le_of_lt (sStep_le _) (by decide)) (fun c_34 => ?_) (fun c_34 => ?_)
        · refine wa_iinc ((nI (j + 1))) [(2, .int (nI (j + 1))), (0, wm_r G (65)), (1, .int (nI (y)))] dX1_meetAhead_61 0 rfl (nI_inc _) (by decide) rfl ?_
          refine wa_goto 15 dX1_meetAhead_64 (by decide) ?_
          exact ih_15 (j + 1) _ (by omega) (by omega) (by first | exact hF.tr (FrP.J (by decide)) | exact hF) (by first | exact (fun c hc => by rw [wJa_n hc]; exact hc9 c hc) | exact hc9) (fun s hs => by rw [wAny_s]; first | (rw [wJa_s, sb_join (by omega) (by omega) (by omega) hs, hsp s hs, hc9 _ (by omega), show 4 - (4 - sStep (M.1 18 j)) = sStep (M.1 18 j) by omega, decide_eq_true c_34, Bool.true_and, Bool.or_assoc]) | (rw [hsp s hs, decide_eq_false (show ¬ 0 < sStep (M.1 18 j) by omega), Bool.false_and, Bool.or_false]))
        · refine wa_aload_n dX1_meetAhead_37 rfl 1 rfl ?_
          refine wa_getr gX1_meetAhead_38 (rfl) rfl ?_
          refine wa_aload_n dX1_meetAhead_41 rfl 1 rfl ?_
          refine wa_getr gX1_meetAhead_42 (rfl) rfl ?_
          refine wa_iload_n dX1_meetAhead_45 rfl 2 rfl ?_
          refine wa_aaldN (e := y) (Or.inr rfl) dX1_meetAhead_46 (rfl) (by omega) (by decide) ?_
          refine wa_iload_n dX1_meetAhead_47 rfl 0 rfl ?_
          refine wa_iconst (4) dX1_meetAhead_48 (by decide) ?_
          refine wa_aload_n dX1_meetAhead_49 rfl 1 rfl ?_
          refine wa_getr gX1_meetAhead_50 (rfl) rfl ?_
          refine wa_iload_n dX1_meetAhead_53 rfl 0 rfl ?_
          refine wa_cVi (m_step j (by omega)) vX4_step iX1_meetAhead_54 (rfl) rfl rfl rfl (Nat.le_of_ble_eq_true rfl) ⟨by decide, by decide⟩ ?_
          refine wa_eqi (y := (nI (sStep (M.1 18 j)))) (by rw [h18N]) ?_
          have hst := sStep_le (M.1 18 j)
          refine wa_isubN (a := 4) (b := sStep (M.1 18 j)) dX1_meetAhead_57 (by omega) ?_
          refine wa_cVv (m_joinMoved 67 (72 + 2 * y) SS_67 (SSv y (by omega)) j (4 - sStep (M.1 18 j)) (by omega) (by omega) (by omega) (by omega)) vX3_joinMoved iX1_meetAhead_58 (rfl) rfl rfl rfl (Nat.le_of_ble_eq_true rfl) ⟨by decide, by decide⟩ ?_
          refine wa_iinc ((nI (j + 1))) [(2, .int (nI (j + 1))), (0, wm_r G (65)), (1, .int (nI (y)))] dX1_meetAhead_61 0 rfl (nI_inc _) (by decide) rfl ?_
          refine wa_goto 15 dX1_meetAhead_64 (by decide) ?_
          exact ih_15 (j + 1) _ (by omega) (by omega) (by first | exact hF.tr (FrP.J (by decide)) | exact hF) (by first | exact (fun c hc => by rw [wJa_n hc]; exact hc9 c hc) | exact hc9) (fun s hs => by rw [wAny_s]; first | (rw [wJa_s, sb_join (by omega) (by omega) (by omega) hs, hsp s hs, hc9 _ (by omega), show 4 - (4 - sStep (M.1 18 j)) = sStep (M.1 18 j) by omega, decide_eq_true c_34, Bool.true_and, Bool.or_assoc]) | (rw [hsp s hs, decide_eq_false (show ¬ 0 < sStep (M.1 18 j) by omega), Bool.false_and, Bool.or_false]))
  exact L_15 _ 0 _ (Nat.lt_succ_self _) (Nat.zero_le _) (FrP.J (by decide)) (fun c hc => wJa_n hc) (fun s hs => by rw [wJa_s, sb_cpy hs, wAny_0, Bool.or_false])

theorem m_isTold {G : wm_G} {M : wm_M} (w h : Nat) (hW : TW M w h) (rn : Nat) (hRO : RecOk M w h rn) (n : Nat) (hn : n ≤ 9) : MA G t_X1_isTold [wm_r G (65), .int (nI (n))] (M) (TdP M w h rn n) := by
  have hn6 := TW_n hW
  refine wm_met (by decide) (Nat.le_of_ble_eq_true rfl) ?_
  show WA G t_X1_isTold (TdP M w h rn n) 0 [(0, wm_r G (65)), (1, .int (nI (n)))] [] (M)
  refine wa_aload_n dX1_isTold_0 rfl 0 rfl ?_
  refine wa_getr gX1_isTold_1 (rfl) rfl ?_
  refine wa_iconst (0) dX1_isTold_4 (by decide) ?_
  refine wa_aaldN (e := 0) (Or.inr rfl) dX1_isTold_5 (rfl) (by omega) (by decide) ?_
  refine wa_iconst (0) dX1_isTold_6 (by decide) ?_
  refine wa_cVv (m_only 72 (SSv 0 (by decide)) 0 (by decide)) vX3_only iX1_isTold_7 (rfl) rfl rfl rfl (Nat.le_of_ble_eq_true rfl) ⟨by decide, by decide⟩ ?_
  refine wa_top (fun N1 e_N1 => ?_)
  have hF1 : FrP M N1 := by rw [e_N1]; exact FrP.J (by decide)
  refine wa_aload_n dX1_isTold_10 rfl 0 rfl ?_
  refine wa_iconst (0) dX1_isTold_11 (by decide) ?_
  refine wa_callV (m_pmeetFitting w h (hF1.w hW) rn (hF1.r hRO) 0 (by omega)) vX1_meetFitting iX1_isTold_12 (rfl) rfl rfl rfl (Nat.le_of_ble_eq_true rfl) ⟨by decide, by decide⟩ (fun v_ N2 h_ => ?_)
  obtain ⟨rfl, hF2, -, hs2⟩ := h_
  show WA G t_X1_isTold (TdP M w h rn n) 15 [(0, wm_r G (65)), (1, .int (nI (n)))] [] (N2)
  refine wa_iconst (1) dX1_isTold_15 (by decide) ?_
  refine wa_istore_n [(2, .int (1)), (0, wm_r G (65)), (1, .int (nI (n)))] dX1_isTold_16 rfl (by decide) rfl ?_
  have L_17 : ∀ (n_ : Nat) (y : Nat) (N : wm_M), (n + 1 - y) < n_ → (1 ≤ y ∧ y ≤ n + 1) → (FrP M N) → (∀ k, k < y → ∀ s, s < 4096 → sb (N.2.1 (72 + 2 * k + 1)) s = fwB M w h rn k s) → WA G t_X1_isTold (TdP M w h rn n) 17 [(2, .int (nI (y))), (0, wm_r G (65)), (1, .int (nI (n)))] [] (N) := by
    intro n_
    induction n_ with
    | zero => intro y N h_; exact absurd h_ (Nat.not_lt_zero _)
    | succ n_ ih_17 =>
      intro y N h_ hy hF hlv
      have hWN := FrP.w hF hW
      have h18N : N.1 18 = M.1 18 := hF.1 18 (by decide)
      refine wa_iload_n dX1_isTold_17 rfl 0 rfl ?_
      refine wa_iload_n dX1_isTold_18 rfl 2 rfl ?_
      refine wa_icmp_gtN (a := y) (b := n) 106 dX1_isTold_19 (by decide) (by omega) (by omega) (fun c_19 => ?_) (fun c_19 => ?_)
      · refine wa_iload_n dX1_isTold_106 rfl 2 rfl ?_
        refine wa_istore_n [(2, .int (nI (n))), (0, wm_r G (65)), (1, .int (nI (n)))] dX1_isTold_107 rfl (by decide) rfl ?_
        have L_108 : ∀ (n_ : Nat) (y : Nat) (N : wm_M), (y) < n_ → (y ≤ n) → (FrP M N) → (∀ k, k < y → ∀ s, s < 4096 → sb (N.2.1 (72 + 2 * k + 1)) s = fwB M w h rn k s) → (∀ k, y ≤ k → k ≤ n → ∀ s, s < 4096 → sb (N.2.1 (72 + 2 * k + 1)) s = lvB M w h rn n (n - k) s) → WA G t_X1_isTold (TdP M w h rn n) 108 [(2, .int (nI (y))), (0, wm_r G (65)), (1, .int (nI (n)))] [] (N) := by
          intro n_
          induction n_ with
          | zero => intro y N h_; exact absurd h_ (Nat.not_lt_zero _)
          | succ n_ ih_108 =>
            intro y N h_ hy hF hlo hup
            have hWN := FrP.w hF hW
            have h18N : N.1 18 = M.1 18 := hF.1 18 (by decide)
            refine wa_iload_n dX1_isTold_108 rfl 0 rfl ?_
            refine wa_iconst (1) dX1_isTold_109 (by decide) ?_
            refine wa_icmp_ltN (a := y) (b := 1) 124 dX1_isTold_110 (by decide) (by omega) (by omega) (fun c_110 => ?_) (fun c_110 => ?_)
            · refine wa_aload_n dX1_isTold_124 rfl 1 rfl ?_
              refine wa_getr gX1_isTold_125 (rfl) rfl ?_
              refine wa_iload_n dX1_isTold_128 rfl 2 rfl ?_
              refine wa_aaldN (e := n) (Or.inr rfl) dX1_isTold_129 (rfl) (by omega) (by decide) ?_
              refine wa_cVi (m_isEmpty (72 + 2 * n) (SSv n (by omega))) vX3_isEmpty iX1_isTold_130 ((SSv n (by omega)).1) rfl rfl rfl (Nat.le_of_ble_eq_true rfl) ⟨by decide, by decide⟩ ?_
              refine wa_if_neB 140 dX1_isTold_133 (by decide) (fun (c_133 : (wAll (fun s => !sb (N.2.1 (72 + 2 * n + 1)) s) 4096) = true) => ?_) (fun (c_133 : (wAll (fun s => !sb (N.2.1 (72 + 2 * n + 1)) s) 4096) = false) => ?_)
              · have e9 : wAll (fun s => !sb (N.2.1 (72 + 2 * n + 1)) s) 4096 = wAll (fun s => !fwB M w h rn n s) 4096 := wAll_cong (fun s hs => by rw [hup n (by omega) (Nat.le_refl _) s hs, Nat.sub_self]; rfl)
                have hv : wAny (fwB M w h rn n) 4096 = false := by unfold wAny; rw [← e9, c_133]; rfl
                refine wa_iconst (0) dX1_isTold_140 (by decide) ?_
                refine wa_zret dX1_isTold_141 rfl (by decide) ?_
                exact ⟨by rw [hv]; rfl, hF, fun k hk s hs => by by_cases q : y ≤ k; (exact hup k q hk s hs); (rw [hlo k (by omega) s hs]; exact absurd (by omega) q)⟩
              · have e9 : wAll (fun s => !sb (N.2.1 (72 + 2 * n + 1)) s) 4096 = wAll (fun s => !fwB M w h rn n s) 4096 := wAll_cong (fun s hs => by rw [hup n (by omega) (Nat.le_refl _) s hs, Nat.sub_self]; rfl)
                have hv : wAny (fwB M w h rn n) 4096 = true := by unfold wAny; rw [← e9, c_133]; rfl
                refine wa_iconst (1) dX1_isTold_136 (by decide) ?_
                refine wa_goto 141 dX1_isTold_137 (by decide) ?_
                refine wa_zret dX1_isTold_141 rfl (by decide) ?_
                exact ⟨by rw [hv]; rfl, hF, fun k hk s hs => by by_cases q : y ≤ k; (exact hup k q hk s hs); (rw [hlo k (by omega) s hs]; exact absurd (by omega) q)⟩
            · refine wa_aload_n dX1_isTold_113 rfl 1 rfl ?_
              refine wa_iload_n dX1_isTold_114 rfl 0 rfl ?_
              refine wa_callV (m_meetAhead w h hWN y (by omega) (by omega)) vX1_meetAhead iX1_isTold_115 (rfl) rfl rfl rfl (Nat.le_of_ble_eq_true rfl) ⟨by decide, by decide⟩ (fun v_ N5 h_ => ?_)
              obtain ⟨rfl, hF5, hc5, hs5⟩ := h_
              show WA G t_X1_isTold (TdP M w h rn n) 118 [(2, .int (nI (y))), (0, wm_r G (65)), (1, .int (nI (n)))] [] (N5)
              refine wa_iinc ((nI (y - 1))) [(2, .int (nI (y - 1))), (0, wm_r G (65)), (1, .int (nI (n)))] dX1_isTold_118 0 rfl (nI_dec1 (by omega)) (by decide) rfl ?_
              refine wa_goto 108 dX1_isTold_121 (by decide) ?_
              exact ih_108 (y - 1) _ (by omega) (by omega) (hF.tr hF5) (fun k hk s hs => by rw [hc5 _ (by omega) (by omega)]; exact hlo k (by omega) s hs) (fun k hk hk2 s hs => by by_cases q : k = y - 1; (subst q; rw [hs5 s hs, hlo (y - 1) (by omega) s hs, hup y (Nat.le_refl _) hy s hs, h18N, show n - (y - 1) = n - y + 1 by omega]; simp only [lvB]; rw [show n - (n - y + 1) = y - 1 by omega]; congr 2; exact wAny_cong (fun j hj => by rw [hup y (Nat.le_refl _) hy _ (sMv_4 hs (by omega))])); (rw [hc5 _ (by omega) (by omega)]; exact hup k (by omega) hk2 s hs))
        exact L_108 _ n _ (Nat.lt_succ_self _) (Nat.le_refl _) hF (fun k hk s hs => hlv k (by omega) s hs) (fun k hk hk2 s hs => by rw [show k = n by omega, Nat.sub_self]; exact hlv n (by omega) s hs)
      · refine wa_aload_n dX1_isTold_22 rfl 1 rfl ?_
        refine wa_getr gX1_isTold_23 (rfl) rfl ?_
        refine wa_iload_n dX1_isTold_26 rfl 0 rfl ?_
        refine wa_aaldN (e := y) (Or.inr rfl) dX1_isTold_27 (rfl) (by omega) (by decide) ?_
        refine wa_aload_n dX1_isTold_28 rfl 1 rfl ?_
        refine wa_getr gX1_isTold_29 (rfl) rfl ?_
        refine wa_iload_n dX1_isTold_32 rfl 0 rfl ?_
        refine wa_iconst (1) dX1_isTold_33 (by decide) ?_
        refine wa_isubN (a := y) (b := 1) dX1_isTold_34 (by omega) ?_
        refine wa_aaldN (e := (y) - (1)) (Or.inr rfl) dX1_isTold_35 (rfl) (by omega) (by decide) ?_
        refine wa_cVv (m_stake (72 + 2 * y) (72 + 2 * (y - 1)) (SSv y (by omega)) (SSv (y - 1) (by omega))) vX3_take iX1_isTold_36 ((SSv y (by omega)).1) rfl rfl rfl (Nat.le_of_ble_eq_true rfl) ⟨by decide, by decide⟩ ?_
        refine wa_iconst (0) dX1_isTold_39 (by decide) ?_
        refine wa_istore_n [(3, .int (0)), (2, .int (nI (y))), (0, wm_r G (65)), (1, .int (nI (n)))] dX1_isTold_40 rfl (by decide) rfl ?_
        have L_41 : ∀ (n_ : Nat) (j : Nat) (O : wm_M), (w * h - j) < n_ → (j ≤ w * h) → (FrP M O) → (∀ c, c ≠ 72 + 2 * y + 1 → O.2.1 c = N.2.1 c) → (∀ s, s < 4096 → sb (O.2.1 (72 + 2 * y + 1)) s = (fwB M w h rn (y - 1) s || wAny (fun j => decide (0 < sStep (M.1 18 j)) && fwB M w h rn (y - 1) (sMv s j (4 - sStep (M.1 18 j)))) j)) → WA G t_X1_isTold (TdP M w h rn n) 41 [(3, .int (nI (j))), (2, .int (nI (y))), (0, wm_r G (65)), (1, .int (nI (n)))] [] (O) := by
          intro n_
          induction n_ with
          | zero => intro j O h_; exact absurd h_ (Nat.not_lt_zero _)
          | succ n_ ih_41 =>
            intro j O h_ hj hFO hcO hsO
            have hWO := FrP.w hFO hW
            have h18O : O.1 18 = M.1 18 := hFO.1 18 (by decide)
            refine wa_iload_n dX1_isTold_41 rfl 0 rfl ?_
            refine wa_aload_n dX1_isTold_42 rfl 2 rfl ?_
            refine wa_getr gX1_isTold_43 (rfl) rfl ?_
            refine wa_cVi (m_number 17 w h SO_17 hWO.1 hWO.2.1) vX4_number iX1_isTold_46 (rfl) rfl rfl rfl (Nat.le_of_ble_eq_true rfl) ⟨by decide, by decide⟩ ?_
            refine wa_icmp_geN (a := j) (b := w * h) 95 dX1_isTold_49 (by decide) (by omega) (by omega) (fun c_49 => ?_) (fun c_49 => ?_)
            · refine wa_aload_n dX1_isTold_95 rfl 2 rfl ?_
              refine wa_iload_n dX1_isTold_96 rfl 1 rfl ?_
              refine wa_callV (m_pmeetFitting w h hWO rn (hFO.r hRO) y (by omega)) vX1_meetFitting iX1_isTold_97 (rfl) rfl rfl rfl (Nat.le_of_ble_eq_true rfl) ⟨by decide, by decide⟩ (fun v_ N4 h_ => ?_)
              obtain ⟨rfl, hF4, hc4, hs4⟩ := h_
              show WA G t_X1_isTold (TdP M w h rn n) 100 [(3, .int (nI (j))), (2, .int (nI (y))), (0, wm_r G (65)), (1, .int (nI (n)))] [] (N4)
              refine wa_iinc ((nI (y + 1))) [(2, .int (nI (y + 1))), (3, .int (nI (j))), (0, wm_r G (65)), (1, .int (nI (n)))] dX1_isTold_100 1 rfl (nI_inc _) (by decide) rfl ?_
              refine wa_goto 17 dX1_isTold_103 (by decide) ?_
              refine wa_sub [0, 2, 3] rfl ?_
              exact ih_17 (y + 1) _ (by omega) ⟨by omega, by omega⟩ (hFO.tr hF4) (fun k hk s hs => by by_cases q : k = y; (subst q; rw [hs4 s hs, hFO.fit hRO.2.1, h18O, hsO s hs, show j = w * h by omega]; obtain ⟨y0, rfl⟩ : ∃ y0, k = y0 + 1 := ⟨k - 1, by omega⟩; rfl); (rw [hc4 _ (by omega) (by omega), hcO _ (by omega)]; exact hlv k (by omega) s hs))
            · refine wa_aload_n dX1_isTold_52 rfl 2 rfl ?_
              refine wa_getr gX1_isTold_53 (rfl) rfl ?_
              refine wa_iload_n dX1_isTold_56 rfl 0 rfl ?_
              refine wa_cVi (m_step j (by omega)) vX4_step iX1_isTold_57 (rfl) rfl rfl rfl (Nat.le_of_ble_eq_true rfl) ⟨by decide, by decide⟩ ?_
              refine wa_eqi (y := (nI (sStep (M.1 18 j)))) (by rw [h18O]) ?_
              refine wa_if_leN (a := sStep (M.1 18 j)) 89 dX1_isTold_60 (by decide) (Nat.lt_of_le_of_lt (sStep_le _) (by decide)) (fun c_60 => ?_) (fun c_60 => ?_)
              · refine wa_iinc ((nI (j + 1))) [(3, .int (nI (j + 1))), (2, .int (nI (y))), (0, wm_r G (65)), (1, .int (nI (n)))] dX1_isTold_89 0 rfl (nI_inc _) (by decide) rfl ?_
                refine wa_goto 41 dX1_isTold_92 (by decide) ?_
                exact ih_41 (j + 1) _ (by omega) (by omega) (by first | exact hFO.tr (FrP.J (by omega)) | exact hFO) (by first | exact (fun c hc => by rw [wJa_n hc]; exact hcO c hc) | exact hcO) (fun s hs => by rw [wAny_s]; first | (rw [wJa_s, sb_join (by omega) (by omega) (by omega) hs, hsO s hs, hcO _ (by omega), hlv (y - 1) (by omega) _ (sMv_4 hs (by omega)), decide_eq_true c_60, Bool.true_and, Bool.or_assoc]) | (rw [hsO s hs, decide_eq_false (show ¬ 0 < sStep (M.1 18 j) by omega), Bool.false_and, Bool.or_false]))
              · refine wa_aload_n dX1_isTold_63 rfl 2 rfl ?_
                refine wa_getr gX1_isTold_64 (rfl) rfl ?_
                refine wa_iload_n dX1_isTold_67 rfl 1 rfl ?_
                refine wa_aaldN (e := y) (Or.inr rfl) dX1_isTold_68 (rfl) (by omega) (by decide) ?_
                refine wa_aload_n dX1_isTold_69 rfl 2 rfl ?_
                refine wa_getr gX1_isTold_70 (rfl) rfl ?_
                refine wa_iload_n dX1_isTold_73 rfl 1 rfl ?_
                refine wa_iconst (1) dX1_isTold_74 (by decide) ?_
                refine wa_isubN (a := y) (b := 1) dX1_isTold_75 (by omega) ?_
                refine wa_aaldN (e := (y) - (1)) (Or.inr rfl) dX1_isTold_76 (rfl) (by omega) (by decide) ?_
                refine wa_iload_n dX1_isTold_77 rfl 0 rfl ?_
                refine wa_aload_n dX1_isTold_78 rfl 2 rfl ?_
                refine wa_getr gX1_isTold_79 (rfl) rfl ?_
                refine wa_iload_n dX1_isTold_82 rfl 0 rfl ?_
                refine wa_cVi (m_step j (by omega)) vX4_step iX1_isTold_83 (rfl) rfl rfl rfl (Nat.le_of_ble_eq_true rfl) ⟨by decide, by decide⟩ ?_
                refine wa_eqi (y := (nI (sStep (M.1 18 j)))) (by rw [h18O]) ?_
                have hst := sStep_le (M.1 18 j)
                refine wa_cVv (m_joinMoved (72 + 2 * y) (72 + 2 * (y - 1)) (SSv y (by omega)) (SSv (y - 1) (by omega)) j (sStep (M.1 18 j)) (by omega) (by omega) (by omega) c_60) vX3_joinMoved iX1_isTold_86 ((SSv y (by omega)).1) rfl rfl rfl (Nat.le_of_ble_eq_true rfl) ⟨by decide, by decide⟩ ?_
                refine wa_iinc ((nI (j + 1))) [(3, .int (nI (j + 1))), (2, .int (nI (y))), (0, wm_r G (65)), (1, .int (nI (n)))] dX1_isTold_89 0 rfl (nI_inc _) (by decide) rfl ?_
                refine wa_goto 41 dX1_isTold_92 (by decide) ?_
                exact ih_41 (j + 1) _ (by omega) (by omega) (by first | exact hFO.tr (FrP.J (by omega)) | exact hFO) (by first | exact (fun c hc => by rw [wJa_n hc]; exact hcO c hc) | exact hcO) (fun s hs => by rw [wAny_s]; first | (rw [wJa_s, sb_join (by omega) (by omega) (by omega) hs, hsO s hs, hcO _ (by omega), hlv (y - 1) (by omega) _ (sMv_4 hs (by omega)), decide_eq_true c_60, Bool.true_and, Bool.or_assoc]) | (rw [hsO s hs, decide_eq_false (show ¬ 0 < sStep (M.1 18 j) by omega), Bool.false_and, Bool.or_false]))
        exact L_41 _ 0 _ (Nat.lt_succ_self _) (Nat.zero_le _) (hF.tr (FrP.J (by omega))) (fun c hc => wJa_n hc) (fun s hs => by rw [wJa_s, sb_cpy hs, hlv (y - 1) (by omega) s hs, wAny_0, Bool.or_false])
  exact L_17 _ 1 _ (Nat.lt_succ_self _) ⟨Nat.le_refl _, by omega⟩ (hF1.tr hF2) (fun k hk s hs => by rw [show k = 0 by omega]; rw [hs2 s hs, hF1.fit hRO.2.1, hF1.1 18 (by decide), e_N1, wJa_s, sb_only (by decide) hs]; rfl)

theorem m_turnedInto {G : wm_G} {M : wm_M} (w h : Nat) (hW : TW M w h) (y : Nat) (hy1 : 1 ≤ y) (hy : y ≤ 9) : MD G t_X1_turnedInto [wm_r G (65), .int (nI (y))] (M) (some (.int (nI (wBits (tiB M y) (w * h))))) (M) := by
  have hn6 := TW_n hW
  refine wm_met (by decide) (Nat.le_of_ble_eq_true rfl) ?_
  show WA G t_X1_turnedInto (fun v_ N_ => v_ = some (.int (nI (wBits (tiB M y) (w * h)))) ∧ N_ = M) 0 [(0, wm_r G (65)), (1, .int (nI (y)))] [] (M)
  refine wa_iconst (0) dX1_turnedInto_0 (by decide) ?_
  refine wa_eqi (y := (nI (wBits (tiB M y) 0))) (rfl) ?_
  refine wa_istore_n [(2, .int (nI (wBits (tiB M y) 0))), (0, wm_r G (65)), (1, .int (nI (y)))] dX1_turnedInto_1 rfl (by decide) rfl ?_
  refine wa_iconst (0) dX1_turnedInto_2 (by decide) ?_
  refine wa_istore_n [(3, .int (0)), (2, .int (nI (wBits (tiB M y) 0))), (0, wm_r G (65)), (1, .int (nI (y)))] dX1_turnedInto_3 rfl (by decide) rfl ?_
  have L_4 : ∀ (n_ : Nat) (j : Nat), (w * h - j) < n_ → (j ≤ w * h) → WA G t_X1_turnedInto (fun v_ N_ => v_ = some (.int (nI (wBits (tiB M y) (w * h)))) ∧ N_ = M) 4 [(3, .int (nI (j))), (2, .int (nI (wBits (tiB M y) j))), (0, wm_r G (65)), (1, .int (nI (y)))] [] (M) := by
    intro n_
    induction n_ with
    | zero => intro j h_; exact absurd h_ (Nat.not_lt_zero _)
    | succ n_ ih_4 =>
      intro j h_ hj
      refine wa_iload_n dX1_turnedInto_4 rfl 0 rfl ?_
      refine wa_aload_n dX1_turnedInto_5 rfl 2 rfl ?_
      refine wa_getr gX1_turnedInto_6 (rfl) rfl ?_
      refine wa_cVi (m_number 17 w h SO_17 hW.1 hW.2.1) vX4_number iX1_turnedInto_9 (rfl) rfl rfl rfl (Nat.le_of_ble_eq_true rfl) ⟨by decide, by decide⟩ ?_
      refine wa_icmp_geN (a := j) (b := w * h) 65 dX1_turnedInto_12 (by decide) (by omega) (by omega) (fun c_12 => ?_) (fun c_12 => ?_)
      · refine wa_iload_n dX1_turnedInto_65 rfl 1 rfl ?_
        exact wa_iret dX1_turnedInto_66 rfl ⟨congrArg (fun z => some (Value.int z)) (by rw [show j = w * h by omega]), rfl⟩
      · refine wa_aload_n dX1_turnedInto_15 rfl 2 rfl ?_
        refine wa_getr gX1_turnedInto_16 (rfl) rfl ?_
        refine wa_iload_n dX1_turnedInto_19 rfl 0 rfl ?_
        refine wa_cVi (m_step j (by omega)) vX4_step iX1_turnedInto_20 (rfl) rfl rfl rfl (Nat.le_of_ble_eq_true rfl) ⟨by decide, by decide⟩ ?_
        refine wa_istore [(4, .int (nI (sStep (M.1 18 j)))), (3, .int (nI (j))), (2, .int (nI (wBits (tiB M y) j))), (0, wm_r G (65)), (1, .int (nI (y)))] dX1_turnedInto_23 (by decide) rfl ?_
        refine wa_iload dX1_turnedInto_25 0 rfl ?_
        refine wa_if_leN (a := sStep (M.1 18 j)) 59 dX1_turnedInto_27 (by decide) (Nat.lt_of_le_of_lt (sStep_le _) (by decide)) (fun c_27 => ?_) (fun c_27 => ?_)
        · have hb : (tiB M y) j = false := by unfold tiB; rw [decide_eq_false (by omega), Bool.false_and]
          refine wa_iinc ((nI (j + 1))) [(3, .int (nI (j + 1))), (4, .int (nI (sStep (M.1 18 j)))), (2, .int (nI (wBits (tiB M y) j))), (0, wm_r G (65)), (1, .int (nI (y)))] dX1_turnedInto_59 1 rfl (nI_inc _) (by decide) rfl ?_
          refine wa_goto 4 dX1_turnedInto_62 (by decide) ?_
          refine wa_sub [0, 2, 3, 4] rfl ?_
          first | rw [wBits_f hb] | skip
          exact ih_4 (j + 1) (by omega) (by omega)
        · refine wa_aload_n dX1_turnedInto_30 rfl 3 rfl ?_
          refine wa_getr gX1_turnedInto_31 (rfl) rfl ?_
          refine wa_iload_n dX1_turnedInto_34 rfl 4 rfl ?_
          refine wa_aaldN (e := y) (Or.inr rfl) dX1_turnedInto_35 (rfl) (by omega) (by decide) ?_
          refine wa_aload_n dX1_turnedInto_36 rfl 3 rfl ?_
          refine wa_getr gX1_turnedInto_37 (rfl) rfl ?_
          refine wa_iload_n dX1_turnedInto_40 rfl 4 rfl ?_
          refine wa_iconst (1) dX1_turnedInto_41 (by decide) ?_
          refine wa_isubN (a := y) (b := 1) dX1_turnedInto_42 (by omega) ?_
          refine wa_aaldN (e := (y) - (1)) (Or.inr rfl) dX1_turnedInto_43 (rfl) (by omega) (by decide) ?_
          refine wa_iload_n dX1_turnedInto_44 rfl 1 rfl ?_
          refine wa_iload dX1_turnedInto_45 0 rfl ?_
          have hst := sStep_le (M.1 18 j)
          refine wa_cVi (m_meetsMoved (72 + 2 * y) (72 + 2 * (y - 1)) (SSv y (by omega)) (SSv (y - 1) (by omega)) j (sStep (M.1 18 j)) (by omega) (by omega) c_27) vX3_meetsMoved iX1_turnedInto_47 ((SSv y (by omega)).1) rfl rfl rfl (Nat.le_of_ble_eq_true rfl) ⟨by decide, by decide⟩ ?_
          refine wa_if_eqB 59 dX1_turnedInto_50 (by decide) (fun (c_50 : (!wAll (fun s => !(sb (M.2.1 (72 + 2 * y + 1)) s && sb (M.2.1 (72 + 2 * (y - 1) + 1)) (sMv s j (4 - sStep (M.1 18 j))))) 4096) = false) => ?_) (fun (c_50 : (!wAll (fun s => !(sb (M.2.1 (72 + 2 * y + 1)) s && sb (M.2.1 (72 + 2 * (y - 1) + 1)) (sMv s j (4 - sStep (M.1 18 j))))) 4096) = true) => ?_)
          · have hb : (tiB M y) j = false := by unfold tiB; rw [c_50, Bool.and_false]
            refine wa_iinc ((nI (j + 1))) [(3, .int (nI (j + 1))), (4, .int (nI (sStep (M.1 18 j)))), (2, .int (nI (wBits (tiB M y) j))), (0, wm_r G (65)), (1, .int (nI (y)))] dX1_turnedInto_59 1 rfl (nI_inc _) (by decide) rfl ?_
            refine wa_goto 4 dX1_turnedInto_62 (by decide) ?_
            refine wa_sub [0, 2, 3, 4] rfl ?_
            first | rw [wBits_f hb] | skip
            exact ih_4 (j + 1) (by omega) (by omega)
          · have hb : (tiB M y) j = true := by unfold tiB; rw [c_50, decide_eq_true c_27]; rfl
            refine wa_iload_n dX1_turnedInto_53 rfl 2 rfl ?_
            refine wa_iconst (1) dX1_turnedInto_54 (by decide) ?_
            refine wa_iload_n dX1_turnedInto_55 rfl 1 rfl ?_
            refine wa_ishl dX1_turnedInto_56 ?_
            refine wa_ior dX1_turnedInto_57 ?_
            refine wa_eqi (y := (nI (wBits (tiB M y) (j + 1)))) (by first | exact wBits_t hb (by omega)) ?_
            refine wa_istore_n [(2, .int (nI (wBits (tiB M y) (j + 1)))), (4, .int (nI (sStep (M.1 18 j)))), (3, .int (nI (j))), (0, wm_r G (65)), (1, .int (nI (y)))] dX1_turnedInto_58 rfl (by decide) rfl ?_
            refine wa_iinc ((nI (j + 1))) [(3, .int (nI (j + 1))), (2, .int (nI (wBits (tiB M y) (j + 1)))), (4, .int (nI (sStep (M.1 18 j)))), (0, wm_r G (65)), (1, .int (nI (y)))] dX1_turnedInto_59 2 rfl (nI_inc _) (by decide) rfl ?_
            refine wa_goto 4 dX1_turnedInto_62 (by decide) ?_
            refine wa_sub [0, 1, 3, 4] rfl ?_
            first | rw [wBits_f hb] | skip
            exact ih_4 (j + 1) (by omega) (by omega)
  exact L_4 _ 0 (Nat.lt_succ_self _) (Nat.zero_le _)

theorem m_spreadTurned {G : wm_G} {M : wm_M} (m k q : Nat) (hm : m ≤ 6) (hk : k < m) (hq : q < 4) (b : Bool) (hd0 : M.2.2 0 = b) (hd1 : M.2.2 1 = !b) : MD G t_X1_spreadTurned [wm_r G (65), .int (nI (4 ^ m)), .int (nI (k)), .int (nI (q))] (M) (none) (wIa M (wm_dt 0 (!b)) (spT (M.1 (wm_dt 0 b)) (M.1 (wm_dt 0 (!b))) (4 ^ m) k q (4 ^ m))) := by
  have h4 := p4_le hm
  refine wm_met (by decide) (Nat.le_of_ble_eq_true rfl) ?_
  show WA G t_X1_spreadTurned (fun v_ N_ => v_ = none ∧ N_ = wIa M (wm_dt 0 (!b)) (spT (M.1 (wm_dt 0 b)) (M.1 (wm_dt 0 (!b))) (4 ^ m) k q (4 ^ m))) 0 [(0, wm_r G (65)), (1, .int (nI (4 ^ m))), (2, .int (nI (k))), (3, .int (nI (q)))] [] (M)
  refine wa_iconst (0) dX1_spreadTurned_0 (by decide) ?_
  refine wa_istore [(4, .int (0)), (0, wm_r G (65)), (1, .int (nI (4 ^ m))), (2, .int (nI (k))), (3, .int (nI (q)))] dX1_spreadTurned_1 (by decide) rfl ?_
  refine wa_eqm (M' := wIa M (wm_dt 0 (!b)) (spT (M.1 (wm_dt 0 b)) (M.1 (wm_dt 0 (!b))) (4 ^ m) k q 0)) (by rw [spT_0, wIa_self]) ?_
  have L_3 : ∀ (n_ : Nat) (i : Nat), (4 ^ m - i) < n_ → (i ≤ 4 ^ m) → WA G t_X1_spreadTurned (fun v_ N_ => v_ = none ∧ N_ = wIa M (wm_dt 0 (!b)) (spT (M.1 (wm_dt 0 b)) (M.1 (wm_dt 0 (!b))) (4 ^ m) k q (4 ^ m))) 3 [(4, .int (nI (i))), (0, wm_r G (65)), (1, .int (nI (4 ^ m))), (2, .int (nI (k))), (3, .int (nI (q)))] [] (wIa M (wm_dt 0 (!b)) (spT (M.1 (wm_dt 0 b)) (M.1 (wm_dt 0 (!b))) (4 ^ m) k q i)) := by
    intro n_
    induction n_ with
    | zero => intro i h_; exact absurd h_ (Nat.not_lt_zero _)
    | succ n_ ih_3 =>
      intro i h_ hi
      refine wa_iload dX1_spreadTurned_3 0 rfl ?_
      refine wa_iload_n dX1_spreadTurned_5 rfl 2 rfl ?_
      refine wa_icmp_geN (a := i) (b := 4 ^ m) 47 dX1_spreadTurned_6 (by decide) (by omega) (by omega) (fun c_6 => ?_) (fun c_6 => ?_)
      · exact wa_vret dX1_spreadTurned_47 rfl ⟨rfl, by rw [show i = 4 ^ m by omega]⟩
      · refine wa_aload_n dX1_spreadTurned_9 rfl 1 rfl ?_
        refine wa_getd gX1_spreadTurned_10 (rfl) rfl ?_
        rw [show wm_dt 0 ((wIa M (wm_dt 0 (!b)) (spT (M.1 (wm_dt 0 b)) (M.1 (wm_dt 0 (!b))) (4 ^ m) k q i)).2.2 0) = wm_dt 0 b from by rw [show (wIa M (wm_dt 0 (!b)) (spT (M.1 (wm_dt 0 b)) (M.1 (wm_dt 0 (!b))) (4 ^ m) k q i)).2.2 0 = b from hd0]]
        refine wa_iload dX1_spreadTurned_13 0 rfl ?_
        refine wa_ialdN (e := i) dX1_spreadTurned_15 (dt_sh b) (by omega) (by omega) ?_
        refine wa_eqi (y := (M.1 (wm_dt 0 b) i)) (by rw [wIa_n (dt_ne b)]) ?_
        refine wa_if_eq 41 dX1_spreadTurned_16 (by decide) (fun c_16 => ?_) (fun c_16 => ?_)
        · have hid := spT_id (g := M.1 (wm_dt 0 (!b))) (S := 4 ^ m) (k := k) (m := q) (by omega) (by omega) c_16
          refine wa_iinc ((nI (i + 1))) [(4, .int (nI (i + 1))), (0, wm_r G (65)), (1, .int (nI (4 ^ m))), (2, .int (nI (k))), (3, .int (nI (q)))] dX1_spreadTurned_41 0 rfl (nI_inc _) (by decide) rfl ?_
          refine wa_goto 3 dX1_spreadTurned_44 (by decide) ?_
          first | rw [← hid] | skip
          exact ih_3 (i + 1) (by omega) (by omega)
        · refine wa_aload_n dX1_spreadTurned_19 rfl 1 rfl ?_
          refine wa_getd gX1_spreadTurned_20 (rfl) rfl ?_
          rw [show wm_dt 1 ((wIa M (wm_dt 0 (!b)) (spT (M.1 (wm_dt 0 b)) (M.1 (wm_dt 0 (!b))) (4 ^ m) k q i)).2.2 1) = wm_dt 0 (!b) from by rw [show (wIa M (wm_dt 0 (!b)) (spT (M.1 (wm_dt 0 b)) (M.1 (wm_dt 0 (!b))) (4 ^ m) k q i)).2.2 1 = !b from hd1]; rfl]
          refine wa_iload dX1_spreadTurned_23 0 rfl ?_
          refine wa_iload_n dX1_spreadTurned_25 rfl 3 rfl ?_
          refine wa_iload_n dX1_spreadTurned_26 rfl 4 rfl ?_
          refine wa_cSi (m_movedBy i k q (by omega) (by omega) hq) vX4_movedBy iX1_spreadTurned_27 rfl rfl (Nat.le_of_ble_eq_true rfl) ⟨by decide, by decide⟩ ?_
          have hmv : sMv i k q < 4 ^ m := sMv_lt c_6 hk
          refine wa_dup2_11 dX1_spreadTurned_30 rfl rfl ?_
          refine wa_ialdN (e := sMv i k q) dX1_spreadTurned_31 (dt_sh (!b)) (by omega) (by omega) ?_
          refine wa_eqi (y := (spT (M.1 (wm_dt 0 b)) (M.1 (wm_dt 0 (!b))) (4 ^ m) k q i (sMv i k q))) (by rw [wIa_s]) ?_
          refine wa_aload_n dX1_spreadTurned_32 rfl 1 rfl ?_
          refine wa_getd gX1_spreadTurned_33 (rfl) rfl ?_
          rw [show wm_dt 0 ((wIa M (wm_dt 0 (!b)) (spT (M.1 (wm_dt 0 b)) (M.1 (wm_dt 0 (!b))) (4 ^ m) k q i)).2.2 0) = wm_dt 0 b from by rw [show (wIa M (wm_dt 0 (!b)) (spT (M.1 (wm_dt 0 b)) (M.1 (wm_dt 0 (!b))) (4 ^ m) k q i)).2.2 0 = b from hd0]]
          refine wa_iload dX1_spreadTurned_36 0 rfl ?_
          refine wa_ialdN (e := i) dX1_spreadTurned_38 (dt_sh b) (by omega) (by omega) ?_
          refine wa_eqi (y := (M.1 (wm_dt 0 b) i)) (by rw [wIa_n (dt_ne b)]) ?_
          refine wa_iadd dX1_spreadTurned_39 ?_
          refine wa_iastN (e := sMv i k q) dX1_spreadTurned_40 (dt_sh (!b)) (by omega) (by omega) ?_
          refine wa_eqm (M' := wIa M (wm_dt 0 (!b)) (spT (M.1 (wm_dt 0 b)) (M.1 (wm_dt 0 (!b))) (4 ^ m) k q (i + 1))) (by rw [wI_wIa, spT_s hm hk (by omega) c_6]) ?_
          refine wa_iinc ((nI (i + 1))) [(4, .int (nI (i + 1))), (0, wm_r G (65)), (1, .int (nI (4 ^ m))), (2, .int (nI (k))), (3, .int (nI (q)))] dX1_spreadTurned_41 0 rfl (nI_inc _) (by decide) rfl ?_
          refine wa_goto 3 dX1_spreadTurned_44 (by decide) ?_
          first | rw [← hid] | skip
          exact ih_3 (i + 1) (by omega) (by omega)
  exact L_3 _ 0 (Nat.lt_succ_self _) (Nat.zero_le _)

theorem m_keepOnly {G : wm_G} {M : wm_M} (c m : Nat) (hc : SS c) (hm : m ≤ 6) (b : Bool) (hd0 : M.2.2 0 = b) : MD G t_X1_keepOnly [wm_r G (65), wm_r G (c), .int (nI (4 ^ m))] (M) (none) (wIa M (wm_dt 0 b) (wTo (fun s => if sb (M.2.1 (c + 1)) s then M.1 (wm_dt 0 b) s else 0) (M.1 (wm_dt 0 b)) (4 ^ m))) := by
  have h4 := p4_le hm
  refine wm_met (by decide) (Nat.le_of_ble_eq_true rfl) ?_
  show WA G t_X1_keepOnly (fun v_ N_ => v_ = none ∧ N_ = wIa M (wm_dt 0 b) (wTo (fun s => if sb (M.2.1 (c + 1)) s then M.1 (wm_dt 0 b) s else 0) (M.1 (wm_dt 0 b)) (4 ^ m))) 0 [(0, wm_r G (65)), (1, wm_r G (c)), (2, .int (nI (4 ^ m)))] [] (M)
  refine wa_iconst (0) dX1_keepOnly_0 (by decide) ?_
  refine wa_istore_n [(3, .int (0)), (0, wm_r G (65)), (1, wm_r G (c)), (2, .int (nI (4 ^ m)))] dX1_keepOnly_1 rfl (by decide) rfl ?_
  refine wa_eqm (M' := wIa M (wm_dt 0 b) (wTo (fun s => if sb (M.2.1 (c + 1)) s then M.1 (wm_dt 0 b) s else 0) (M.1 (wm_dt 0 b)) 0)) (by rw [wTo_0, wIa_self]) ?_
  have L_2 : ∀ (n_ : Nat) (i : Nat), (4 ^ m - i) < n_ → (i ≤ 4 ^ m) → WA G t_X1_keepOnly (fun v_ N_ => v_ = none ∧ N_ = wIa M (wm_dt 0 b) (wTo (fun s => if sb (M.2.1 (c + 1)) s then M.1 (wm_dt 0 b) s else 0) (M.1 (wm_dt 0 b)) (4 ^ m))) 2 [(3, .int (nI (i))), (0, wm_r G (65)), (1, wm_r G (c)), (2, .int (nI (4 ^ m)))] [] (wIa M (wm_dt 0 b) (wTo (fun s => if sb (M.2.1 (c + 1)) s then M.1 (wm_dt 0 b) s else 0) (M.1 (wm_dt 0 b)) i)) := by
    intro n_
    induction n_ with
    | zero => intro i h_; exact absurd h_ (Nat.not_lt_zero _)
    | succ n_ ih_2 =>
      intro i h_ hi
      refine wa_iload_n dX1_keepOnly_2 rfl 0 rfl ?_
      refine wa_iload_n dX1_keepOnly_3 rfl 3 rfl ?_
      refine wa_icmp_geN (a := i) (b := 4 ^ m) 37 dX1_keepOnly_4 (by decide) (by omega) (by omega) (fun c_4 => ?_) (fun c_4 => ?_)
      · exact wa_vret dX1_keepOnly_37 rfl ⟨rfl, by rw [show i = 4 ^ m by omega]⟩
      · refine wa_aload_n dX1_keepOnly_7 rfl 1 rfl ?_
        refine wa_getd gX1_keepOnly_8 (rfl) rfl ?_
        rw [show wm_dt 0 ((wIa M (wm_dt 0 b) (wTo (fun s => if sb (M.2.1 (c + 1)) s then M.1 (wm_dt 0 b) s else 0) (M.1 (wm_dt 0 b)) i)).2.2 0) = wm_dt 0 b from by rw [show (wIa M (wm_dt 0 b) (wTo (fun s => if sb (M.2.1 (c + 1)) s then M.1 (wm_dt 0 b) s else 0) (M.1 (wm_dt 0 b)) i)).2.2 0 = b from hd0]]
        refine wa_iload_n dX1_keepOnly_11 rfl 0 rfl ?_
        refine wa_ialdN (e := i) dX1_keepOnly_12 (dt_sh b) (by omega) (by omega) ?_
        refine wa_eqi (y := (M.1 (wm_dt 0 b) i)) (by rw [wIa_s, wTo_out (Nat.le_refl _)]) ?_
        refine wa_if_eq 31 dX1_keepOnly_13 (by decide) (fun c_13 => ?_) (fun c_13 => ?_)
        · have hid := wTo_nx (f := (fun s => if sb (M.2.1 (c + 1)) s then M.1 (wm_dt 0 b) s else 0)) (g := M.1 (wm_dt 0 b)) (i := i) (show (if sb (M.2.1 (c + 1)) i then M.1 (wm_dt 0 b) i else 0) = M.1 (wm_dt 0 b) i from by rw [c_13]; split <;> rfl)
          refine wa_iinc ((nI (i + 1))) [(3, .int (nI (i + 1))), (0, wm_r G (65)), (1, wm_r G (c)), (2, .int (nI (4 ^ m)))] dX1_keepOnly_31 0 rfl (nI_inc _) (by decide) rfl ?_
          refine wa_goto 2 dX1_keepOnly_34 (by decide) ?_
          first | rw [hid] | skip
          exact ih_2 (i + 1) (by omega) (by omega)
        · refine wa_aload_n dX1_keepOnly_16 rfl 2 rfl ?_
          refine wa_iload_n dX1_keepOnly_17 rfl 0 rfl ?_
          refine wa_cVi (m_shas c hc i (by omega)) vX3_has iX1_keepOnly_18 (hc.1) rfl rfl rfl (Nat.le_of_ble_eq_true rfl) ⟨by decide, by decide⟩ ?_
          refine wa_eqi (y := (wB (sb (M.2.1 (c + 1)) i))) (rfl) ?_
          refine wa_if_neB 31 dX1_keepOnly_21 (by decide) (fun (c_21 : (sb (M.2.1 (c + 1)) i) = true) => ?_) (fun (c_21 : (sb (M.2.1 (c + 1)) i) = false) => ?_)
          · have hid := wTo_nx (f := (fun s => if sb (M.2.1 (c + 1)) s then M.1 (wm_dt 0 b) s else 0)) (g := M.1 (wm_dt 0 b)) (i := i) (show (if sb (M.2.1 (c + 1)) i then M.1 (wm_dt 0 b) i else 0) = M.1 (wm_dt 0 b) i from by rw [c_21]; rfl)
            refine wa_iinc ((nI (i + 1))) [(3, .int (nI (i + 1))), (0, wm_r G (65)), (1, wm_r G (c)), (2, .int (nI (4 ^ m)))] dX1_keepOnly_31 0 rfl (nI_inc _) (by decide) rfl ?_
            refine wa_goto 2 dX1_keepOnly_34 (by decide) ?_
            first | rw [hid] | skip
            exact ih_2 (i + 1) (by omega) (by omega)
          · refine wa_aload_n dX1_keepOnly_24 rfl 1 rfl ?_
            refine wa_getd gX1_keepOnly_25 (rfl) rfl ?_
            rw [show wm_dt 0 ((wIa M (wm_dt 0 b) (wTo (fun s => if sb (M.2.1 (c + 1)) s then M.1 (wm_dt 0 b) s else 0) (M.1 (wm_dt 0 b)) i)).2.2 0) = wm_dt 0 b from by rw [show (wIa M (wm_dt 0 b) (wTo (fun s => if sb (M.2.1 (c + 1)) s then M.1 (wm_dt 0 b) s else 0) (M.1 (wm_dt 0 b)) i)).2.2 0 = b from hd0]]
            refine wa_iload_n dX1_keepOnly_28 rfl 0 rfl ?_
            refine wa_iconst (0) dX1_keepOnly_29 (by decide) ?_
            refine wa_iastN (e := i) dX1_keepOnly_30 (dt_sh b) (by omega) (by omega) ?_
            refine wa_eqm (M' := wIa M (wm_dt 0 b) (wTo (fun s => if sb (M.2.1 (c + 1)) s then M.1 (wm_dt 0 b) s else 0) (M.1 (wm_dt 0 b)) (i + 1))) (by rw [wI_wIa, wTo_s (show (0 : Int32) = (if sb (M.2.1 (c + 1)) i then M.1 (wm_dt 0 b) i else 0) from by rw [c_21]; rfl)]) ?_
            refine wa_iinc ((nI (i + 1))) [(3, .int (nI (i + 1))), (0, wm_r G (65)), (1, wm_r G (c)), (2, .int (nI (4 ^ m)))] dX1_keepOnly_31 0 rfl (nI_inc _) (by decide) rfl ?_
            refine wa_goto 2 dX1_keepOnly_34 (by decide) ?_
            first | rw [hid] | skip
            exact ih_2 (i + 1) (by omega) (by omega)
  exact L_2 _ 0 (Nat.lt_succ_self _) (Nat.zero_le _)

theorem m_spread {G : wm_G} {M : wm_M} (w h : Nat) (hW : TW M w h) (m : Nat) (hm : m = w * h) (f : Nat → Nat) (b : Bool) (hd0 : M.2.2 0 = b) (hd1 : M.2.2 1 = !b) (hf : ∀ t, t < 4 ^ m → M.1 (wm_dt 0 b) t = nI (f t)) : MA G t_X1_spread [wm_r G (65), .int (nI (4 ^ m))] (M) (SpP M m b f) := by
  have hn6 := TW_n hW
  have h4 := p4_le (show m ≤ 6 by omega)
  refine wm_met (by decide) (Nat.le_of_ble_eq_true rfl) ?_
  show WA G t_X1_spread (SpP M m b f) 0 [(0, wm_r G (65)), (1, .int (nI (4 ^ m)))] [] (M)
  refine wa_aload_n dX1_spread_0 rfl 0 rfl ?_
  refine wa_getd gX1_spread_1 (rfl) rfl ?_
  rw [show wm_dt 0 ((M).2.2 0) = wm_dt 0 b from by rw [hd0]]
  refine wa_iconst (0) dX1_spread_4 (by decide) ?_
  refine wa_aload_n dX1_spread_5 rfl 0 rfl ?_
  refine wa_getd gX1_spread_6 (rfl) rfl ?_
  rw [show wm_dt 1 ((M).2.2 1) = wm_dt 0 (!b) from by rw [hd1]; rfl]
  refine wa_iconst (0) dX1_spread_9 (by decide) ?_
  refine wa_iload_n dX1_spread_10 rfl 1 rfl ?_
  refine wa_copyi iX1_spread_11 (dt_sh b) (dt_sh (!b)) (by decide) (by decide) (nI_pos (by omega)) (by rw [nI_clamp (by omega)]; show 0 + _ ≤ _; omega) (by rw [nI_clamp (by omega)]; show 0 + _ ≤ _; omega) ⟨by decide, Nat.le_of_ble_eq_true rfl⟩ ?_
  refine wa_eqm (M' := wIa M (wm_dt 0 (!b)) (va_cpy (M.1 (wm_dt 0 b)) (M.1 (wm_dt 0 (!b))) 0 0 (4 ^ m))) (by rw [nI_clamp (by omega)]; rfl) ?_
  refine wa_iconst (0) dX1_spread_14 (by decide) ?_
  refine wa_istore_n [(2, .int (0)), (0, wm_r G (65)), (1, .int (nI (4 ^ m)))] dX1_spread_15 rfl (by decide) rfl ?_
  have L_16 : ∀ (n_ : Nat) (j : Nat) (N : wm_M), (w * h - j) < n_ → (j ≤ w * h) → (FrW M N) → (N.2.2 0 = b) → (N.2.2 1 = !b) → (N.1 (wm_dt 0 b) = M.1 (wm_dt 0 b)) → (∀ t, t < 4 ^ m → N.1 (wm_dt 0 (!b)) t = nI (f t + wSum (fun j => if 0 < sStep (M.1 18 j) then f (sMv t j (4 - sStep (M.1 18 j))) else 0) j)) → WA G t_X1_spread (SpP M m b f) 16 [(2, .int (nI (j))), (0, wm_r G (65)), (1, .int (nI (4 ^ m)))] [] (N) := by
    intro n_
    induction n_ with
    | zero => intro j N h_; exact absurd h_ (Nat.not_lt_zero _)
    | succ n_ ih_16 =>
      intro j N h_ hj hF hb0 hb1 ha hg
      have h18N : N.1 18 = M.1 18 := hF.1 18 (by decide) (by decide)
      have hWN := hW.fr (hF.1 17 (by decide) (by decide))
      refine wa_iload_n dX1_spread_16 rfl 0 rfl ?_
      refine wa_aload_n dX1_spread_17 rfl 1 rfl ?_
      refine wa_getr gX1_spread_18 (rfl) rfl ?_
      refine wa_cVi (m_number 17 w h SO_17 hWN.1 hWN.2.1) vX4_number iX1_spread_21 (rfl) rfl rfl rfl (Nat.le_of_ble_eq_true rfl) ⟨by decide, by decide⟩ ?_
      refine wa_icmp_geN (a := j) (b := w * h) 58 dX1_spread_24 (by decide) (by omega) (by omega) (fun c_24 => ?_) (fun c_24 => ?_)
      · refine wa_aload_n dX1_spread_58 rfl 1 rfl ?_
        refine wa_getd gX1_spread_59 (rfl) rfl ?_
        rw [show wm_dt 0 ((N).2.2 0) = wm_dt 0 b from by rw [hb0]]
        refine wa_astore_n [(2, wm_r G (wm_dt 0 b)), (0, wm_r G (65)), (1, .int (nI (4 ^ m)))] dX1_spread_62 rfl (by decide) rfl ?_
        refine wa_aload_n dX1_spread_63 rfl 1 rfl ?_
        refine wa_aload_n dX1_spread_64 rfl 1 rfl ?_
        refine wa_getd gX1_spread_65 (rfl) rfl ?_
        rw [show wm_dt 1 ((N).2.2 1) = wm_dt 0 (!b) from by rw [hb1]; rfl]
        refine wa_putd (!b) gX1_spread_68 (rfl) rfl (rfl) ⟨_, rfl⟩ ?_
        refine wa_aload_n dX1_spread_71 rfl 1 rfl ?_
        refine wa_aload_n dX1_spread_72 rfl 0 rfl ?_
        refine wa_putd (b) gX1_spread_73 (rfl) rfl (rfl) ⟨_, rfl⟩ ?_
        refine wa_vret dX1_spread_76 rfl ?_
        exact ⟨rfl, (hF.tr (FrW.D (by decide))).tr (FrW.D (by decide)), by rw [wD_n (by decide), wD_s], wD_s, fun t ht => by show N.1 (wm_dt 0 (!b)) t = _; rw [hg t ht, show j = m by omega]⟩
      · refine wa_aload_n dX1_spread_27 rfl 1 rfl ?_
        refine wa_getr gX1_spread_28 (rfl) rfl ?_
        refine wa_iload_n dX1_spread_31 rfl 0 rfl ?_
        refine wa_cVi (m_step j (by omega)) vX4_step iX1_spread_32 (rfl) rfl rfl rfl (Nat.le_of_ble_eq_true rfl) ⟨by decide, by decide⟩ ?_
        refine wa_eqi (y := (nI (sStep (M.1 18 j)))) (by rw [h18N]) ?_
        refine wa_if_leN (a := sStep (M.1 18 j)) 52 dX1_spread_35 (by decide) (Nat.lt_of_le_of_lt (sStep_le _) (by decide)) (fun c_35 => ?_) (fun c_35 => ?_)
        · refine wa_iinc ((nI (j + 1))) [(2, .int (nI (j + 1))), (0, wm_r G (65)), (1, .int (nI (4 ^ m)))] dX1_spread_52 0 rfl (nI_inc _) (by decide) rfl ?_
          refine wa_goto 16 dX1_spread_55 (by decide) ?_
          exact ih_16 (j + 1) _ (by omega) (by omega) (by first | exact hF.tr FrW.I | exact hF) hb0 hb1 (by first | exact (wIa_n (dt_ne b)).trans ha | exact ha) (fun t ht => by simp only [wSum]; first | (rw [wIa_s, spT_S (by omega) (by omega) ht, hg t ht, ha, hf _ (sMv_lt ht (by omega)), if_pos c_35, nI_add, Nat.add_assoc]) | (rw [if_neg (show ¬ 0 < sStep (M.1 18 j) by omega), Nat.add_zero]; exact hg t ht))
        · refine wa_aload_n dX1_spread_38 rfl 1 rfl ?_
          refine wa_iload_n dX1_spread_39 rfl 2 rfl ?_
          refine wa_iload_n dX1_spread_40 rfl 0 rfl ?_
          refine wa_aload_n dX1_spread_41 rfl 1 rfl ?_
          refine wa_getr gX1_spread_42 (rfl) rfl ?_
          refine wa_iload_n dX1_spread_45 rfl 0 rfl ?_
          refine wa_cVi (m_step j (by omega)) vX4_step iX1_spread_46 (rfl) rfl rfl rfl (Nat.le_of_ble_eq_true rfl) ⟨by decide, by decide⟩ ?_
          refine wa_eqi (y := (nI (sStep (M.1 18 j)))) (by rw [h18N]) ?_
          have hst := sStep_le (M.1 18 j)
          refine wa_cVv (m_spreadTurned m j (sStep (M.1 18 j)) (by omega) (by omega) (by omega) b hb0 hb1) vX1_spreadTurned iX1_spread_49 (rfl) rfl rfl rfl (Nat.le_of_ble_eq_true rfl) ⟨by decide, by decide⟩ ?_
          refine wa_iinc ((nI (j + 1))) [(2, .int (nI (j + 1))), (0, wm_r G (65)), (1, .int (nI (4 ^ m)))] dX1_spread_52 0 rfl (nI_inc _) (by decide) rfl ?_
          refine wa_goto 16 dX1_spread_55 (by decide) ?_
          exact ih_16 (j + 1) _ (by omega) (by omega) (by first | exact hF.tr FrW.I | exact hF) hb0 hb1 (by first | exact (wIa_n (dt_ne b)).trans ha | exact ha) (fun t ht => by simp only [wSum]; first | (rw [wIa_s, spT_S (by omega) (by omega) ht, hg t ht, ha, hf _ (sMv_lt ht (by omega)), if_pos c_35, nI_add, Nat.add_assoc]) | (rw [if_neg (show ¬ 0 < sStep (M.1 18 j) by omega), Nat.add_zero]; exact hg t ht))
  exact L_16 _ 0 _ (Nat.lt_succ_self _) (Nat.zero_le _) FrW.I hd0 hd1 (wIa_n (dt_ne b)) (fun t ht => by rw [wIa_s, cpy0 ht, hf t ht]; rfl)

theorem m_waysTo {G : wm_G} {M : wm_M} (w h : Nat) (hW : TW M w h) (n last : Nat) (y : Int32) (c : Nat) (hc : SS c) (b : Bool) (hd0 : M.2.2 0 = b) (hd1 : M.2.2 1 = !b) (L : Nat → Nat → Bool) (T : Nat → Bool) (hn : n ≤ 9) (hl : last ≤ n) (hL : ∀ k, k ≤ n → ∀ s, s < 4096 → sb (M.2.1 (72 + 2 * k + 1)) s = L k s) (hT : ∀ s, s < 4096 → sb (M.2.1 (c + 1)) s = T s) : MA G t_X1_waysTo [wm_r G (65), .int (nI (n)), .int (nI (last)), .int (y), wm_r G (c)] (M) (WtP M (w * h) n last (kpB L y T)) := by
  have hn6 := TW_n hW
  have h4 := p4_le hn6
  have h40 : 0 < 4 ^ (w * h) := Nat.pow_pos (by decide)
  refine wm_met (by decide) (Nat.le_of_ble_eq_true rfl) ?_
  show WA G t_X1_waysTo (WtP M (w * h) n last (kpB L y T)) 0 [(0, wm_r G (65)), (1, .int (nI (n))), (2, .int (nI (last))), (3, .int (y)), (4, wm_r G (c))] [] (M)
  refine wa_iconst (1) dX1_waysTo_0 (by decide) ?_
  refine wa_iconst (2) dX1_waysTo_1 (by decide) ?_
  refine wa_aload_n dX1_waysTo_2 rfl 0 rfl ?_
  refine wa_getr gX1_waysTo_3 (rfl) rfl ?_
  refine wa_cVi (m_number 17 w h SO_17 hW.1 hW.2.1) vX4_number iX1_waysTo_6 (rfl) rfl rfl rfl (Nat.le_of_ble_eq_true rfl) ⟨by decide, by decide⟩ ?_
  refine wa_imulN (a := 2) (b := w * h) dX1_waysTo_9 ?_
  refine wa_ishl dX1_waysTo_10 ?_
  refine wa_eqi (y := (nI (4 ^ (w * h)))) (by rw [nI_pow _ (by omega), p4]) ?_
  refine wa_istore [(5, .int (nI (4 ^ (w * h)))), (0, wm_r G (65)), (1, .int (nI (n))), (2, .int (nI (last))), (3, .int (y)), (4, wm_r G (c))] dX1_waysTo_11 (by decide) rfl ?_
  refine wa_aload_n dX1_waysTo_13 rfl 1 rfl ?_
  refine wa_getd gX1_waysTo_14 (rfl) rfl ?_
  rw [show wm_dt 0 ((M).2.2 0) = wm_dt 0 b from by rw [hd0]]
  refine wa_iconst (0) dX1_waysTo_17 (by decide) ?_
  refine wa_iload dX1_waysTo_18 0 rfl ?_
  refine wa_iconst (0) dX1_waysTo_20 (by decide) ?_
  refine wa_cSv (m_fill4 (wm_dt 0 b) 4096 0 (4 ^ (w * h)) 0 (dt_sh b) (by omega) h4 (by decide)) vJ7_fill_fda19 iX1_waysTo_21 rfl rfl (Nat.le_of_ble_eq_true rfl) ⟨by decide, by decide⟩ ?_
  refine wa_aload_n dX1_waysTo_24 rfl 1 rfl ?_
  refine wa_getd gX1_waysTo_25 (rfl) rfl ?_
  rw [show wm_dt 0 ((wIa M (wm_dt 0 b) (wFill (M.1 (wm_dt 0 b)) 0 (4 ^ (w * h)) 0)).2.2 0) = wm_dt 0 b from by rw [show (wIa M (wm_dt 0 b) (wFill (M.1 (wm_dt 0 b)) 0 (4 ^ (w * h)) 0)).2.2 0 = b from hd0]]
  refine wa_iconst (0) dX1_waysTo_28 (by decide) ?_
  refine wa_iconst (1) dX1_waysTo_29 (by decide) ?_
  refine wa_iastN (e := 0) dX1_waysTo_30 (dt_sh b) (by omega) (by omega) ?_
  refine wa_eqm (M' := wIa M (wm_dt 0 b) (upd (wFill (M.1 (wm_dt 0 b)) 0 (4 ^ (w * h)) 0) 0 1)) (wI_wIa) ?_
  refine wa_iconst (0) dX1_waysTo_31 (by decide) ?_
  refine wa_istore [(6, .int (0)), (5, .int (nI (4 ^ (w * h)))), (0, wm_r G (65)), (1, .int (nI (n))), (2, .int (nI (last))), (3, .int (y)), (4, wm_r G (c))] dX1_waysTo_32 (by decide) rfl ?_
  have L_34 : ∀ (n_ : Nat) (k : Nat) (N : wm_M) (b1 : Bool), (last + 1 - k) < n_ → (k ≤ last + 1) → (FrW M N) → (N.2.2 0 = b1) → (N.2.2 1 = !b1) → (k = 0 → ∀ t, t < 4 ^ (w * h) → N.1 (wm_dt 0 b1) t = nI (if t = 0 then 1 else 0)) → (∀ k0, k = k0 + 1 → ∀ t, t < 4 ^ (w * h) → N.1 (wm_dt 0 b1) t = nI (wyN (M.1 18) (w * h) (kpB L y T) k0 t)) → WA G t_X1_waysTo (WtP M (w * h) n last (kpB L y T)) 34 [(6, .int (nI (k))), (5, .int (nI (4 ^ (w * h)))), (0, wm_r G (65)), (1, .int (nI (n))), (2, .int (nI (last))), (3, .int (y)), (4, wm_r G (c))] [] (N) := by
    intro n_
    induction n_ with
    | zero => intro k N b1 h_; exact absurd h_ (Nat.not_lt_zero _)
    | succ n_ ih_34 =>
      intro k N b1 h_ hk hF hb0 hb1 hw0 hws
      have h18N : N.1 18 = M.1 18 := hF.1 18 (by decide) (by decide)
      have hWN := hW.fr (hF.1 17 (by decide) (by decide))
      refine wa_iload dX1_waysTo_34 0 rfl ?_
      refine wa_iload_n dX1_waysTo_36 rfl 4 rfl ?_
      refine wa_icmp_gtN (a := k) (b := last) 84 dX1_waysTo_37 (by decide) (by omega) (by omega) (fun c_37 => ?_) (fun c_37 => ?_)
      · have hkl : k = last + 1 := by omega
        refine wa_iconst (0) dX1_waysTo_84 (by decide) ?_
        refine wa_eqi (y := (nI (wSum (wyN (M.1 18) (w * h) (kpB L y T) last) 0))) (rfl) ?_
        refine wa_istore [(6, .int (nI (wSum (wyN (M.1 18) (w * h) (kpB L y T) last) 0))), (5, .int (nI (4 ^ (w * h)))), (0, wm_r G (65)), (1, .int (nI (n))), (2, .int (nI (last))), (3, .int (y)), (4, wm_r G (c))] dX1_waysTo_85 (by decide) rfl ?_
        refine wa_iconst (0) dX1_waysTo_87 (by decide) ?_
        refine wa_istore [(7, .int (0)), (6, .int (nI (wSum (wyN (M.1 18) (w * h) (kpB L y T) last) 0))), (5, .int (nI (4 ^ (w * h)))), (0, wm_r G (65)), (1, .int (nI (n))), (2, .int (nI (last))), (3, .int (y)), (4, wm_r G (c))] dX1_waysTo_88 (by decide) rfl ?_
        have L_90 : ∀ (n_ : Nat) (i : Nat), (4 ^ (w * h) - i) < n_ → (i ≤ 4 ^ (w * h)) → WA G t_X1_waysTo (WtP M (w * h) n last (kpB L y T)) 90 [(7, .int (nI (i))), (6, .int (nI (wSum (wyN (M.1 18) (w * h) (kpB L y T) last) i))), (5, .int (nI (4 ^ (w * h)))), (0, wm_r G (65)), (1, .int (nI (n))), (2, .int (nI (last)))] [] (N) := by
          intro n_
          induction n_ with
          | zero => intro i h_; exact absurd h_ (Nat.not_lt_zero _)
          | succ n_ ih_90 =>
            intro i h_ hi
            refine wa_iload dX1_waysTo_90 0 rfl ?_
            refine wa_iload dX1_waysTo_92 2 rfl ?_
            refine wa_icmp_geN (a := i) (b := 4 ^ (w * h)) 115 dX1_waysTo_94 (by decide) (by omega) (by omega) (fun c_94 => ?_) (fun c_94 => ?_)
            · refine wa_iconst (1) dX1_waysTo_115 (by decide) ?_
              refine wa_aload_n dX1_waysTo_116 rfl 3 rfl ?_
              refine wa_getr gX1_waysTo_117 (rfl) rfl ?_
              refine wa_cVi (m_number 17 w h SO_17 hWN.1 hWN.2.1) vX4_number iX1_waysTo_120 (rfl) rfl rfl rfl (Nat.le_of_ble_eq_true rfl) ⟨by decide, by decide⟩ ?_
              refine wa_iaddN (a := 1) (b := w * h) dX1_waysTo_123 ?_
              refine wa_aload_n dX1_waysTo_124 rfl 3 rfl ?_
              refine wa_getr gX1_waysTo_125 (rfl) rfl ?_
              refine wa_iconst (2) dX1_waysTo_128 (by decide) ?_
              refine wa_cVi (m_numberOf w h hWN 2) vX4_numberOf iX1_waysTo_129 (rfl) rfl rfl rfl (Nat.le_of_ble_eq_true rfl) ⟨by decide, by decide⟩ ?_
              refine wa_eqi (y := (nI (wCnt (fun k => isOfB (M.1 18 k) 2) (w * h)))) (by rw [h18N]) ?_
              refine wa_isubN (a := 1 + (w * h)) (b := wCnt (fun k => isOfB (M.1 18 k) 2) (w * h)) dX1_waysTo_132 (by have := wCnt_le (fun k => isOfB (M.1 18 k) 2) (w * h); omega) ?_
              refine wa_eqi (y := (nI (chN (M.1 18) (w * h)))) (rfl) ?_
              refine wa_istore [(7, .int (nI (chN (M.1 18) (w * h)))), (6, .int (nI (wSum (wyN (M.1 18) (w * h) (kpB L y T) last) i))), (5, .int (nI (4 ^ (w * h)))), (0, wm_r G (65)), (1, .int (nI (n))), (2, .int (nI (last)))] dX1_waysTo_133 (by decide) rfl ?_
              refine wa_iload_n dX1_waysTo_135 rfl 5 rfl ?_
              refine wa_istore [(8, .int (nI (last))), (7, .int (nI (chN (M.1 18) (w * h)))), (6, .int (nI (wSum (wyN (M.1 18) (w * h) (kpB L y T) last) i))), (5, .int (nI (4 ^ (w * h)))), (0, wm_r G (65)), (1, .int (nI (n))), (2, .int (nI (last)))] dX1_waysTo_136 (by decide) rfl ?_
              have L_138 : ∀ (n_ : Nat) (d : Nat), (n - (last + d)) < n_ → (last + d ≤ n) → WA G t_X1_waysTo (WtP M (w * h) n last (kpB L y T)) 138 [(8, .int (nI (last + d))), (7, .int (nI (chN (M.1 18) (w * h)))), (6, .int (nI (wSum (wyN (M.1 18) (w * h) (kpB L y T) last) (4 ^ (w * h)) * chN (M.1 18) (w * h) ^ d))), (0, wm_r G (65)), (1, .int (nI (n))), (2, .int (nI (last)))] [] (N) := by
                intro n_
                induction n_ with
                | zero => intro d h_; exact absurd h_ (Nat.not_lt_zero _)
                | succ n_ ih_138 =>
                  intro d h_ hd
                  refine wa_iload dX1_waysTo_138 0 rfl ?_
                  refine wa_iload_n dX1_waysTo_140 rfl 4 rfl ?_
                  refine wa_icmp_geN (a := last + d) (b := n) 157 dX1_waysTo_141 (by decide) (by omega) (by omega) (fun c_141 => ?_) (fun c_141 => ?_)
                  · refine wa_iload dX1_waysTo_157 2 rfl ?_
                    refine wa_iret dX1_waysTo_159 rfl ?_
                    exact ⟨by rw [show n - last = d by omega], hF, by rw [hb0, hb1]⟩
                  · refine wa_iload dX1_waysTo_144 2 rfl ?_
                    refine wa_iload dX1_waysTo_146 1 rfl ?_
                    refine wa_imulN (a := wSum (wyN (M.1 18) (w * h) (kpB L y T) last) (4 ^ (w * h)) * chN (M.1 18) (w * h) ^ d) (b := chN (M.1 18) (w * h)) dX1_waysTo_148 ?_
                    refine wa_eqi (y := (nI (wSum (wyN (M.1 18) (w * h) (kpB L y T) last) (4 ^ (w * h)) * chN (M.1 18) (w * h) ^ (d + 1)))) (by rw [Nat.pow_succ, Nat.mul_assoc]) ?_
                    refine wa_istore [(6, .int (nI (wSum (wyN (M.1 18) (w * h) (kpB L y T) last) (4 ^ (w * h)) * chN (M.1 18) (w * h) ^ (d + 1)))), (8, .int (nI (last + d))), (7, .int (nI (chN (M.1 18) (w * h)))), (0, wm_r G (65)), (1, .int (nI (n))), (2, .int (nI (last)))] dX1_waysTo_149 (by decide) rfl ?_
                    refine wa_iinc ((nI (last + d + 1))) [(8, .int (nI (last + d + 1))), (6, .int (nI (wSum (wyN (M.1 18) (w * h) (kpB L y T) last) (4 ^ (w * h)) * chN (M.1 18) (w * h) ^ (d + 1)))), (7, .int (nI (chN (M.1 18) (w * h)))), (0, wm_r G (65)), (1, .int (nI (n))), (2, .int (nI (last)))] dX1_waysTo_151 1 rfl (nI_inc _) (by decide) rfl ?_
                    refine wa_goto 138 dX1_waysTo_154 (by decide) ?_
                    refine wa_sub [0, 2, 1, 3, 4, 5] rfl ?_
                    exact ih_138 (d + 1) (by omega) (by omega)
              refine wa_sub [0, 1, 2, 4, 5, 6] rfl ?_
              rw [show wSum (wyN (M.1 18) (w * h) (kpB L y T) last) i = wSum (wyN (M.1 18) (w * h) (kpB L y T) last) (4 ^ (w * h)) * chN (M.1 18) (w * h) ^ 0 by rw [show i = 4 ^ (w * h) by omega, Nat.pow_zero, Nat.mul_one]]
              exact L_138 _ 0 (Nat.lt_succ_self _) (by omega)
            · refine wa_iload dX1_waysTo_97 1 rfl ?_
              refine wa_aload_n dX1_waysTo_99 rfl 3 rfl ?_
              refine wa_getd gX1_waysTo_100 (rfl) rfl ?_
              rw [show wm_dt 0 ((N).2.2 0) = wm_dt 0 b1 from by rw [hb0]]
              refine wa_iload dX1_waysTo_103 0 rfl ?_
              refine wa_ialdN (e := i) dX1_waysTo_105 (dt_sh b1) (by omega) (by omega) ?_
              refine wa_eqi (y := (nI (wyN (M.1 18) (w * h) (kpB L y T) last i))) (hws last hkl i c_94) ?_
              refine wa_iaddN (a := wSum (wyN (M.1 18) (w * h) (kpB L y T) last) i) (b := wyN (M.1 18) (w * h) (kpB L y T) last i) dX1_waysTo_106 ?_
              refine wa_eqi (y := (nI (wSum (wyN (M.1 18) (w * h) (kpB L y T) last) (i + 1)))) (rfl) ?_
              refine wa_istore [(6, .int (nI (wSum (wyN (M.1 18) (w * h) (kpB L y T) last) (i + 1)))), (7, .int (nI (i))), (5, .int (nI (4 ^ (w * h)))), (0, wm_r G (65)), (1, .int (nI (n))), (2, .int (nI (last)))] dX1_waysTo_107 (by decide) rfl ?_
              refine wa_iinc ((nI (i + 1))) [(7, .int (nI (i + 1))), (6, .int (nI (wSum (wyN (M.1 18) (w * h) (kpB L y T) last) (i + 1)))), (5, .int (nI (4 ^ (w * h)))), (0, wm_r G (65)), (1, .int (nI (n))), (2, .int (nI (last)))] dX1_waysTo_109 1 rfl (nI_inc _) (by decide) rfl ?_
              refine wa_goto 90 dX1_waysTo_112 (by decide) ?_
              exact ih_90 (i + 1) (by omega) (by omega)
        refine wa_sub [0, 1, 2, 3, 4, 5] rfl ?_
        exact L_90 _ 0 (Nat.lt_succ_self _) (Nat.zero_le _)
      · have L_51 : ∀ (N2 : wm_M) (b2 : Bool), (FrW M N2) → (N2.2.2 0 = b2) → (N2.2.2 1 = !b2) → (∀ t, t < 4 ^ (w * h) → N2.1 (wm_dt 0 b2) t = nI (preN (M.1 18) (w * h) (kpB L y T) k t)) → WA G t_X1_waysTo (WtP M (w * h) n last (kpB L y T)) 51 [(6, .int (nI (k))), (5, .int (nI (4 ^ (w * h)))), (0, wm_r G (65)), (1, .int (nI (n))), (2, .int (nI (last))), (3, .int (y)), (4, wm_r G (c))] [] (N2) := by
          intro N2 b2 hF2 hb20 hb21 hw2
          refine wa_aload_n dX1_waysTo_51 rfl 2 rfl ?_
          refine wa_aload_n dX1_waysTo_52 rfl 2 rfl ?_
          refine wa_getr gX1_waysTo_53 (rfl) rfl ?_
          refine wa_iload dX1_waysTo_56 0 rfl ?_
          refine wa_aaldN (e := k) (Or.inr rfl) dX1_waysTo_58 (rfl) (by omega) (by decide) ?_
          refine wa_iload dX1_waysTo_59 1 rfl ?_
          refine wa_cVv (m_keepOnly (72 + 2 * k) (w * h) (SSv k (by omega)) hn6 b2 hb20) vX1_keepOnly iX1_waysTo_61 (rfl) rfl rfl rfl (Nat.le_of_ble_eq_true rfl) ⟨by decide, by decide⟩ ?_
          refine wa_top (fun N3 e_N3 => ?_)
          have hF3 : FrW M N3 := by rw [e_N3]; exact hF2.tr FrW.I
          have hb30 : N3.2.2 0 = b2 := by rw [e_N3]; exact hb20
          have hb31 : N3.2.2 1 = !b2 := by rw [e_N3]; exact hb21
          have hw3 : ∀ t, t < 4 ^ (w * h) → N3.1 (wm_dt 0 b2) t = nI (if L k t then preN (M.1 18) (w * h) (kpB L y T) k t else 0) := fun t ht => by
            rw [e_N3, wIa_s, wTo_in ht, hF2.2.1, hL k (by omega) t (by omega), hw2 t ht]; split <;> rfl
          refine wa_iload dX1_waysTo_64 0 rfl ?_
          refine wa_iload_n dX1_waysTo_66 rfl 5 rfl ?_
          refine wa_icmp_ne 78 dX1_waysTo_67 (by decide) (fun c_67 => ?_) (fun c_67 => ?_)
          · have hw4 : ∀ t, t < 4 ^ (w * h) → N3.1 (wm_dt 0 b2) t = nI (wyN (M.1 18) (w * h) (kpB L y T) k t) := fun t ht => by
              rw [hw3 t ht, wyN_pre]; unfold kpB; rw [decide_eq_false (fun e => c_67 e.symm), Bool.not_false, Bool.true_or, Bool.and_true]
            have L_78 : ∀ (N5 : wm_M) (b3 : Bool), (FrW M N5) → (N5.2.2 0 = b3) → (N5.2.2 1 = !b3) → (∀ t, t < 4 ^ (w * h) → N5.1 (wm_dt 0 b3) t = nI (wyN (M.1 18) (w * h) (kpB L y T) k t)) → WA G t_X1_waysTo (WtP M (w * h) n last (kpB L y T)) 78 [(6, .int (nI (k))), (5, .int (nI (4 ^ (w * h)))), (0, wm_r G (65)), (1, .int (nI (n))), (2, .int (nI (last))), (3, .int (y)), (4, wm_r G (c))] [] (N5) := by
              intro N5 b3 hFm hbm0 hbm1 hwm
              refine wa_iinc ((nI (k + 1))) [(6, .int (nI (k + 1))), (5, .int (nI (4 ^ (w * h)))), (0, wm_r G (65)), (1, .int (nI (n))), (2, .int (nI (last))), (3, .int (y)), (4, wm_r G (c))] dX1_waysTo_78 0 rfl (nI_inc _) (by decide) rfl ?_
              refine wa_goto 34 dX1_waysTo_81 (by decide) ?_
              exact ih_34 (k + 1) _ b3 (by omega) (by omega) hFm hbm0 hbm1 (fun e => absurd e (by omega)) (fun k0 e => by rw [show k0 = k by omega]; exact hwm)
            exact L_78 _ b2 hF3 hb30 hb31 hw4
          · refine wa_aload_n dX1_waysTo_70 rfl 2 rfl ?_
            refine wa_aload dX1_waysTo_71 6 rfl ?_
            refine wa_iload dX1_waysTo_73 1 rfl ?_
            refine wa_cVv (m_keepOnly c (w * h) hc hn6 b2 hb30) vX1_keepOnly iX1_waysTo_75 (rfl) rfl rfl rfl (Nat.le_of_ble_eq_true rfl) ⟨by decide, by decide⟩ ?_
            refine wa_top (fun N4 e_N4 => ?_)
            have hF4 : FrW M N4 := by rw [e_N4]; exact hF3.tr FrW.I
            have hb40 : N4.2.2 0 = b2 := by rw [e_N4]; exact hb30
            have hb41 : N4.2.2 1 = !b2 := by rw [e_N4]; exact hb31
            have hw4 : ∀ t, t < 4 ^ (w * h) → N4.1 (wm_dt 0 b2) t = nI (wyN (M.1 18) (w * h) (kpB L y T) k t) := fun t ht => by
              rw [e_N4, wIa_s, wTo_in ht, hF3.2.1, hT t (by omega), hw3 t ht, wyN_pre]; unfold kpB; rw [decide_eq_true c_67.symm, Bool.not_true, Bool.false_or]; cases L k t <;> cases T t <;> rfl
            have L_78 : ∀ (N5 : wm_M) (b3 : Bool), (FrW M N5) → (N5.2.2 0 = b3) → (N5.2.2 1 = !b3) → (∀ t, t < 4 ^ (w * h) → N5.1 (wm_dt 0 b3) t = nI (wyN (M.1 18) (w * h) (kpB L y T) k t)) → WA G t_X1_waysTo (WtP M (w * h) n last (kpB L y T)) 78 [(6, .int (nI (k))), (5, .int (nI (4 ^ (w * h)))), (0, wm_r G (65)), (1, .int (nI (n))), (2, .int (nI (last))), (3, .int (y)), (4, wm_r G (c))] [] (N5) := by
              intro N5 b3 hFm hbm0 hbm1 hwm
              refine wa_iinc ((nI (k + 1))) [(6, .int (nI (k + 1))), (5, .int (nI (4 ^ (w * h)))), (0, wm_r G (65)), (1, .int (nI (n))), (2, .int (nI (last))), (3, .int (y)), (4, wm_r G (c))] dX1_waysTo_78 0 rfl (nI_inc _) (by decide) rfl ?_
              refine wa_goto 34 dX1_waysTo_81 (by decide) ?_
              exact ih_34 (k + 1) _ b3 (by omega) (by omega) hFm hbm0 hbm1 (fun e => absurd e (by omega)) (fun k0 e => by rw [show k0 = k by omega]; exact hwm)
            exact L_78 _ b2 hF4 hb40 hb41 hw4
        refine wa_iload dX1_waysTo_40 0 rfl ?_
        refine wa_if_leN (a := k) 51 dX1_waysTo_42 (by decide) (by omega) (fun c_42 => ?_) (fun c_42 => ?_)
        · exact L_51 _ b1 hF hb0 hb1 (fun t ht => by rw [hw0 (by omega) t ht, show k = 0 by omega]; rfl)
        · obtain ⟨k0, hk0⟩ : ∃ k0, k = k0 + 1 := ⟨k - 1, by omega⟩
          refine wa_aload_n dX1_waysTo_45 rfl 2 rfl ?_
          refine wa_iload dX1_waysTo_46 1 rfl ?_
          refine wa_callV (m_spread w h hWN (w * h) rfl (wyN (M.1 18) (w * h) (kpB L y T) k0) b1 hb0 hb1 (hws k0 hk0)) vX1_spread iX1_waysTo_48 (rfl) rfl rfl rfl (Nat.le_of_ble_eq_true rfl) ⟨by decide, by decide⟩ (fun v_ N2 h_ => ?_)
          obtain ⟨rfl, hF2, hc0, hc1, hw2⟩ := h_
          show WA G t_X1_waysTo (WtP M (w * h) n last (kpB L y T)) 51 [(6, .int (nI (k))), (5, .int (nI (4 ^ (w * h)))), (0, wm_r G (65)), (1, .int (nI (n))), (2, .int (nI (last))), (3, .int (y)), (4, wm_r G (c))] [] (N2)
          exact L_51 _ (!b1) (hF.tr hF2) hc0 (by rw [hc1, Bool.not_not]) (fun t ht => by rw [hw2 t ht, h18N, hk0]; rfl)
  exact L_34 _ 0 _ b (Nat.lt_succ_self _) (Nat.zero_le _) FrW.I hd0 hd1 (fun _ t ht => by rw [wIa_s]; by_cases q : t = 0; (subst q; rw [upd_s]; rfl); (rw [upd_n q, wFill_in (Nat.zero_le _) ht, if_neg q]; rfl)) (fun k0 e => absurd e (by omega))
