theorem m_mostYears {G : wm_G} {M : wm_M} (w h : Nat) (hW : TW M w h) : MD G t_X4_mostYears [wm_r G (17)] (M) (some (.int (nI (wSum (fun k => sMost (M.1 18 k)) (w * h))))) (M) := by
  have hn6 := TW_n hW
  obtain ⟨hw, hh, hw3, hh2⟩ := hW
  refine wm_met (by decide) (Nat.le_of_ble_eq_true rfl) ?_
  show WA G t_X4_mostYears (fun v_ N_ => v_ = some (.int (nI (wSum (fun k => sMost (M.1 18 k)) (w * h)))) ∧ N_ = M) 0 [(0, wm_r G (17))] [] (M)
  refine wa_iconst (0) dX4_mostYears_0 (by decide) ?_
  refine wa_istore_n [(1, .int (0)), (0, wm_r G (17))] dX4_mostYears_1 rfl (by decide) rfl ?_
  refine wa_iconst (0) dX4_mostYears_2 (by decide) ?_
  refine wa_istore_n [(2, .int (0)), (1, .int (0)), (0, wm_r G (17))] dX4_mostYears_3 rfl (by decide) rfl ?_
  have L_4 : ∀ (n_ : Nat) (k c : Nat), (w * h - k) < n_ → (k ≤ w * h) → (c = wSum (fun k => sMost (M.1 18 k)) k) → WA G t_X4_mostYears (fun v_ N_ => v_ = some (.int (nI (wSum (fun k => sMost (M.1 18 k)) (w * h)))) ∧ N_ = M) 4 [(2, .int (nI (k))), (1, .int (nI (c))), (0, wm_r G (17))] [] (M) := by
    intro n_
    induction n_ with
    | zero => intro k c h_; exact absurd h_ (Nat.not_lt_zero _)
    | succ n_ ih_4 =>
      intro k c h_ hk hc
      refine wa_iload_n dX4_mostYears_4 rfl 0 rfl ?_
      refine wa_aload_n dX4_mostYears_5 rfl 2 rfl ?_
      refine wa_cVi (m_number 17 w h SO_17 hw hh) vX4_number iX4_mostYears_6 (rfl) rfl rfl rfl (Nat.le_of_ble_eq_true rfl) ⟨by decide, by decide⟩ ?_
      refine wa_icmp_geN (a := k) (b := w * h) 26 dX4_mostYears_9 (by decide) (by omega) (by omega) (fun c_9 => ?_) (fun c_9 => ?_)
      · refine wa_iload_n dX4_mostYears_26 rfl 1 rfl ?_
        exact wa_iret dX4_mostYears_27 rfl ⟨congrArg (fun z => some (Value.int z)) (by rw [hc, show k = w * h by omega]), rfl⟩
      · refine wa_iload_n dX4_mostYears_12 rfl 1 rfl ?_
        refine wa_aload_n dX4_mostYears_13 rfl 2 rfl ?_
        refine wa_iload_n dX4_mostYears_14 rfl 0 rfl ?_
        refine wa_cVi (m_mostTurns k (by omega)) vX4_mostTurns iX4_mostYears_15 (rfl) rfl rfl rfl (Nat.le_of_ble_eq_true rfl) ⟨by decide, by decide⟩ ?_
        refine wa_iaddN (a := c) (b := sMost (M.1 18 k)) dX4_mostYears_18 ?_
        refine wa_istore_n [(1, .int (nI (c + (sMost (M.1 18 k))))), (2, .int (nI (k))), (0, wm_r G (17))] dX4_mostYears_19 rfl (by decide) rfl ?_
        refine wa_iinc ((nI (k + 1))) [(2, .int (nI (k + 1))), (1, .int (nI (c + (sMost (M.1 18 k))))), (0, wm_r G (17))] dX4_mostYears_20 1 rfl (nI_inc _) (by decide) rfl ?_
        refine wa_goto 4 dX4_mostYears_23 (by decide) ?_
        exact ih_4 (k + 1) _ (by omega) (by omega) (by rw [hc]; rfl)
  exact L_4 _ 0 0 (Nat.lt_succ_self _) (Nat.zero_le _) rfl

theorem m_quartersHad {G : wm_G} {M : wm_M} (w h : Nat) (hW : TW M w h) (a : Nat) (ha : wm_sh a = .inr (0, 6, 0, 0)) (ha17 : a ≠ 17) (ha18 : a ≠ 18) : MD G t_X4_quartersHad [wm_r G (17), wm_r G (a)] (M) (none) (wIa M a (wTo (tHad (M.1 18) (w * h)) (M.1 a) 6)) := by
  have hn6 := TW_n hW
  refine wm_met (by decide) (Nat.le_of_ble_eq_true rfl) ?_
  show WA G t_X4_quartersHad (fun v_ N_ => v_ = none ∧ N_ = wIa M a (wTo (tHad (M.1 18) (w * h)) (M.1 a) 6)) 0 [(0, wm_r G (17)), (1, wm_r G (a))] [] (M)
  refine wa_iconst (0) dX4_quartersHad_0 (by decide) ?_
  refine wa_istore_n [(2, .int (0)), (0, wm_r G (17)), (1, wm_r G (a))] dX4_quartersHad_1 rfl (by decide) rfl ?_
  have L_2 : ∀ (n_ : Nat) (k : Nat), (6 - k) < n_ → (k ≤ 6) → WA G t_X4_quartersHad (fun v_ N_ => v_ = none ∧ N_ = wIa M a (wTo (tHad (M.1 18) (w * h)) (M.1 a) 6)) 2 [(2, .int (nI (k))), (0, wm_r G (17)), (1, wm_r G (a))] [] (wIa M a (wTo (tHad (M.1 18) (w * h)) (M.1 a) k)) := by
    intro n_
    induction n_ with
    | zero => intro k h_; exact absurd h_ (Nat.not_lt_zero _)
    | succ n_ ih_2 =>
      intro k h_ hk
      refine wa_iload_n dX4_quartersHad_2 rfl 0 rfl ?_
      refine wa_bipush (6) dX4_quartersHad_3 (by decide) ?_
      refine wa_icmp_geN (a := k) (b := 6) 61 dX4_quartersHad_5 (by decide) (by omega) (by omega) (fun c_5 => ?_) (fun c_5 => ?_)
      · exact wa_vret dX4_quartersHad_61 rfl ⟨rfl, by rw [show k = 6 by omega]⟩
      · refine wa_iload_n dX4_quartersHad_8 rfl 0 rfl ?_
        refine wa_aload_n dX4_quartersHad_9 rfl 2 rfl ?_
        refine wa_alen (nI (6)) dX4_quartersHad_10 (ha) (by decide) rfl ?_
        refine wa_icmp_geN (a := k) (b := 6) 61 dX4_quartersHad_11 (by decide) (by omega) (by omega) (fun c_11 => absurd c_11 (by omega)) (fun c_11 => ?_)
        refine wa_aload_n dX4_quartersHad_14 rfl 1 rfl ?_
        refine wa_iload_n dX4_quartersHad_15 rfl 0 rfl ?_
        refine wa_cVi (m_sknowsN w h (TW_I hW ha17) k (by omega)) vX4_knows iX4_quartersHad_16 (rfl) rfl rfl rfl (Nat.le_of_ble_eq_true rfl) ⟨by decide, by decide⟩ ?_
        refine wa_if_eqB 30 dX4_quartersHad_19 (by decide) (fun (c_19 : (decide (k < w * h)) = false) => ?_) (fun (c_19 : (decide (k < w * h)) = true) => ?_)
        · refine wa_iconst (0) dX4_quartersHad_30 (by decide) ?_
          refine wa_istore_n [(3, .int (0)), (2, .int (nI (k))), (0, wm_r G (17)), (1, wm_r G (a))] dX4_quartersHad_31 rfl (by decide) rfl ?_
          refine wa_aload_n dX4_quartersHad_32 rfl 3 rfl ?_
          refine wa_iload_n dX4_quartersHad_33 rfl 1 rfl ?_
          refine wa_iload_n dX4_quartersHad_34 rfl 0 rfl ?_
          refine wa_iconst (3) dX4_quartersHad_35 (by decide) ?_
          refine wa_icmp_ne 44 dX4_quartersHad_36 (by decide) (fun c_36 => ?_) (fun c_36 => absurd c_36 (by decide))
          refine wa_iload_n dX4_quartersHad_44 rfl 0 rfl ?_
          refine wa_iconst (1) dX4_quartersHad_45 (by decide) ?_
          refine wa_icmp_ne 53 dX4_quartersHad_46 (by decide) (fun c_46 => ?_) (fun c_46 => absurd c_46 (by decide))
          refine wa_iconst (1) dX4_quartersHad_53 (by decide) ?_
          refine wa_iastN (e := k) dX4_quartersHad_54 (ha) (by omega) (by omega) ?_
          refine wa_eqm (M' := wIa M a (wTo (tHad (M.1 18) (w * h)) (M.1 a) (k + 1))) (by rw [wI_wIa, wTo_s (by unfold tHad; first | (rw [if_neg (by simpa using c_19)]; done) | (rw [if_pos (by simpa using c_19)]; simp [sHad, c_36]; done) | (rw [if_pos (by simpa using c_19)]; simp [sHad, c_36, c_46]; done))]) ?_
          refine wa_iinc ((nI (k + 1))) [(2, .int (nI (k + 1))), (3, .int (0)), (0, wm_r G (17)), (1, wm_r G (a))] dX4_quartersHad_55 1 rfl (nI_inc _) (by decide) rfl ?_
          refine wa_goto 2 dX4_quartersHad_58 (by decide) ?_
          refine wa_sub [0, 2, 3] rfl ?_
          exact ih_2 (k + 1) (by omega) (by omega)
        · refine wa_aload_n dX4_quartersHad_22 rfl 1 rfl ?_
          refine wa_iload_n dX4_quartersHad_23 rfl 0 rfl ?_
          refine wa_cVi (m_mostTurns k (by omega)) vX4_mostTurns iX4_quartersHad_24 (rfl) rfl rfl rfl (Nat.le_of_ble_eq_true rfl) ⟨by decide, by decide⟩ ?_
          refine wa_eqi (y := (nI (sMost (M.1 18 k)))) (by rw [wIa_n (Ne.symm ha18)]) ?_
          refine wa_goto 31 dX4_quartersHad_27 (by decide) ?_
          refine wa_istore_n [(3, .int (nI (sMost (M.1 18 k)))), (2, .int (nI (k))), (0, wm_r G (17)), (1, wm_r G (a))] dX4_quartersHad_31 rfl (by decide) rfl ?_
          refine wa_aload_n dX4_quartersHad_32 rfl 3 rfl ?_
          refine wa_iload_n dX4_quartersHad_33 rfl 1 rfl ?_
          refine wa_iload_n dX4_quartersHad_34 rfl 0 rfl ?_
          refine wa_iconst (3) dX4_quartersHad_35 (by decide) ?_
          refine wa_icmp_neN (a := sMost (M.1 18 k)) (b := 3) 44 dX4_quartersHad_36 (by decide) (Nat.lt_of_le_of_lt (sMost_le _) (by decide)) (by omega) (fun c_36 => ?_) (fun c_36 => ?_)
          · refine wa_iload_n dX4_quartersHad_44 rfl 0 rfl ?_
            refine wa_iconst (1) dX4_quartersHad_45 (by decide) ?_
            refine wa_icmp_neN (a := sMost (M.1 18 k)) (b := 1) 53 dX4_quartersHad_46 (by decide) (Nat.lt_of_le_of_lt (sMost_le _) (by decide)) (by omega) (fun c_46 => ?_) (fun c_46 => ?_)
            · refine wa_iconst (1) dX4_quartersHad_53 (by decide) ?_
              refine wa_iastN (e := k) dX4_quartersHad_54 (ha) (by omega) (by omega) ?_
              refine wa_eqm (M' := wIa M a (wTo (tHad (M.1 18) (w * h)) (M.1 a) (k + 1))) (by rw [wI_wIa, wTo_s (by unfold tHad; first | (rw [if_neg (by simpa using c_19)]; done) | (rw [if_pos (by simpa using c_19)]; simp [sHad, c_36]; done) | (rw [if_pos (by simpa using c_19)]; simp [sHad, c_36, c_46]; done))]) ?_
              refine wa_iinc ((nI (k + 1))) [(2, .int (nI (k + 1))), (3, .int (nI (sMost (M.1 18 k)))), (0, wm_r G (17)), (1, wm_r G (a))] dX4_quartersHad_55 1 rfl (nI_inc _) (by decide) rfl ?_
              refine wa_goto 2 dX4_quartersHad_58 (by decide) ?_
              refine wa_sub [0, 2, 3] rfl ?_
              exact ih_2 (k + 1) (by omega) (by omega)
            · refine wa_iconst (5) dX4_quartersHad_49 (by decide) ?_
              refine wa_goto 54 dX4_quartersHad_50 (by decide) ?_
              refine wa_iastN (e := k) dX4_quartersHad_54 (ha) (by omega) (by omega) ?_
              refine wa_eqm (M' := wIa M a (wTo (tHad (M.1 18) (w * h)) (M.1 a) (k + 1))) (by rw [wI_wIa, wTo_s (by unfold tHad; first | (rw [if_neg (by simpa using c_19)]; done) | (rw [if_pos (by simpa using c_19)]; simp [sHad, c_36]; done) | (rw [if_pos (by simpa using c_19)]; simp [sHad, c_36, c_46]; done))]) ?_
              refine wa_iinc ((nI (k + 1))) [(2, .int (nI (k + 1))), (3, .int (nI (sMost (M.1 18 k)))), (0, wm_r G (17)), (1, wm_r G (a))] dX4_quartersHad_55 1 rfl (nI_inc _) (by decide) rfl ?_
              refine wa_goto 2 dX4_quartersHad_58 (by decide) ?_
              refine wa_sub [0, 2, 3] rfl ?_
              exact ih_2 (k + 1) (by omega) (by omega)
          · refine wa_bipush (15) dX4_quartersHad_39 (by decide) ?_
            refine wa_goto 54 dX4_quartersHad_41 (by decide) ?_
            refine wa_iastN (e := k) dX4_quartersHad_54 (ha) (by omega) (by omega) ?_
            refine wa_eqm (M' := wIa M a (wTo (tHad (M.1 18) (w * h)) (M.1 a) (k + 1))) (by rw [wI_wIa, wTo_s (by unfold tHad; first | (rw [if_neg (by simpa using c_19)]; done) | (rw [if_pos (by simpa using c_19)]; simp [sHad, c_36]; done) | (rw [if_pos (by simpa using c_19)]; simp [sHad, c_36, c_46]; done))]) ?_
            refine wa_iinc ((nI (k + 1))) [(2, .int (nI (k + 1))), (3, .int (nI (sMost (M.1 18 k)))), (0, wm_r G (17)), (1, wm_r G (a))] dX4_quartersHad_55 1 rfl (nI_inc _) (by decide) rfl ?_
            refine wa_goto 2 dX4_quartersHad_58 (by decide) ?_
            refine wa_sub [0, 2, 3] rfl ?_
            exact ih_2 (k + 1) (by omega) (by omega)
  refine wa_eqm (M' := wIa M a (wTo (tHad (M.1 18) (w * h)) (M.1 a) 0)) (by rw [wTo_0, wIa_self]) ?_
  exact L_2 _ 0 (Nat.lt_succ_self _) (by omega)

theorem m_quartersShowing {G : wm_G} {M : wm_M} (k first : Nat) (word : Int32) (hk : k < 6) (hf : first < 100) : MD G t_X4_quartersShowing [wm_r G (17), .int (nI (k)), .int (nI (first)), .int (word)] (M) (some (.int (nI (wBits (fun q => decide (sShow (M.1 18) (M.1 19) k ((q + first) % 4) = word)) 4)))) (M) := by
  refine wm_met (by decide) (Nat.le_of_ble_eq_true rfl) ?_
  show WA G t_X4_quartersShowing (fun v_ N_ => v_ = some (.int (nI (wBits (fun q => decide (sShow (M.1 18) (M.1 19) k ((q + first) % 4) = word)) 4))) ∧ N_ = M) 0 [(0, wm_r G (17)), (1, .int (nI (k))), (2, .int (nI (first))), (3, .int (word))] [] (M)
  refine wa_iconst (0) dX4_quartersShowing_0 (by decide) ?_
  refine wa_istore [(4, .int (0)), (0, wm_r G (17)), (1, .int (nI (k))), (2, .int (nI (first))), (3, .int (word))] dX4_quartersShowing_1 (by decide) rfl ?_
  refine wa_iconst (0) dX4_quartersShowing_3 (by decide) ?_
  refine wa_istore [(5, .int (0)), (4, .int (0)), (0, wm_r G (17)), (1, .int (nI (k))), (2, .int (nI (first))), (3, .int (word))] dX4_quartersShowing_4 (by decide) rfl ?_
  have L_6 : ∀ (n_ : Nat) (q acc : Nat), (4 - q) < n_ → (q ≤ 4) → (acc = wBits (fun q => decide (sShow (M.1 18) (M.1 19) k ((q + first) % 4) = word)) q) → WA G t_X4_quartersShowing (fun v_ N_ => v_ = some (.int (nI (wBits (fun q => decide (sShow (M.1 18) (M.1 19) k ((q + first) % 4) = word)) 4))) ∧ N_ = M) 6 [(5, .int (nI (q))), (4, .int (nI (acc))), (0, wm_r G (17)), (1, .int (nI (k))), (2, .int (nI (first))), (3, .int (word))] [] (M) := by
    intro n_
    induction n_ with
    | zero => intro q acc h_; exact absurd h_ (Nat.not_lt_zero _)
    | succ n_ ih_6 =>
      intro q acc h_ hq ha
      refine wa_iload dX4_quartersShowing_6 0 rfl ?_
      refine wa_iconst (4) dX4_quartersShowing_8 (by decide) ?_
      refine wa_icmp_geN (a := q) (b := 4) 42 dX4_quartersShowing_9 (by decide) (by omega) (by omega) (fun c_9 => ?_) (fun c_9 => ?_)
      · refine wa_iload dX4_quartersShowing_42 1 rfl ?_
        exact wa_iret dX4_quartersShowing_44 rfl ⟨congrArg (fun z => some (Value.int z)) (by rw [ha, show q = 4 by omega]), rfl⟩
      · refine wa_aload_n dX4_quartersShowing_12 rfl 2 rfl ?_
        refine wa_iload_n dX4_quartersShowing_13 rfl 3 rfl ?_
        refine wa_iload dX4_quartersShowing_14 0 rfl ?_
        refine wa_iload_n dX4_quartersShowing_16 rfl 4 rfl ?_
        refine wa_iaddN (a := q) (b := first) dX4_quartersShowing_17 ?_
        refine wa_iconst (3) dX4_quartersShowing_18 (by decide) ?_
        refine wa_iand dX4_quartersShowing_19 ?_
        refine wa_eqi (y := (nI ((q + first) % 4))) (nI_and3 (by omega)) ?_
        refine wa_cVi (m_shown k ((q + first) % 4) hk (Nat.mod_lt _ (by decide))) vX4_shown iX4_quartersShowing_20 (rfl) rfl rfl rfl (Nat.le_of_ble_eq_true rfl) ⟨by decide, by decide⟩ ?_
        refine wa_iload_n dX4_quartersShowing_23 rfl 5 rfl ?_
        refine wa_icmp_ne 36 dX4_quartersShowing_24 (by decide) (fun c_24 => ?_) (fun c_24 => ?_)
        · refine wa_iinc ((nI (q + 1))) [(5, .int (nI (q + 1))), (4, .int (nI (acc))), (0, wm_r G (17)), (1, .int (nI (k))), (2, .int (nI (first))), (3, .int (word))] dX4_quartersShowing_36 0 rfl (nI_inc _) (by decide) rfl ?_
          refine wa_goto 6 dX4_quartersShowing_39 (by decide) ?_
          exact ih_6 (q + 1) _ (by omega) (by omega) (by simp [wBits, c_24, ha])
        · refine wa_iload dX4_quartersShowing_27 1 rfl ?_
          refine wa_iconst (1) dX4_quartersShowing_29 (by decide) ?_
          refine wa_iload dX4_quartersShowing_30 0 rfl ?_
          refine wa_ishl dX4_quartersShowing_32 ?_
          refine wa_ior dX4_quartersShowing_33 ?_
          refine wa_eqi (y := (nI (acc + 2 ^ q))) (nI_orp (by rw [ha]; exact wBits_lt _ _) (by omega)) ?_
          refine wa_istore [(4, .int (nI (acc + 2 ^ q))), (5, .int (nI (q))), (0, wm_r G (17)), (1, .int (nI (k))), (2, .int (nI (first))), (3, .int (word))] dX4_quartersShowing_34 (by decide) rfl ?_
          refine wa_iinc ((nI (q + 1))) [(5, .int (nI (q + 1))), (4, .int (nI (acc + 2 ^ q))), (0, wm_r G (17)), (1, .int (nI (k))), (2, .int (nI (first))), (3, .int (word))] dX4_quartersShowing_36 1 rfl (nI_inc _) (by decide) rfl ?_
          refine wa_goto 6 dX4_quartersShowing_39 (by decide) ?_
          exact ih_6 (q + 1) _ (by omega) (by omega) (by simp [wBits, c_24, ha])
  exact L_6 _ 0 0 (Nat.lt_succ_self _) (by omega) rfl

theorem m_turnsTo {G : wm_G} {M : wm_M} (k seen : Nat) (word : Int32) (hk : k < 6) (hf : seen < 4) : MD G t_X4_turnsTo [wm_r G (17), .int (nI (k)), .int (nI (seen)), .int (word)] (M) (some (.int (wFind (fun j => decide (sShow (M.1 18) (M.1 19) k ((seen + j * sStep (M.1 18 k)) % 4) = word)) (sMost (M.1 18 k) + 1)))) (M) := by
  refine wm_met (by decide) (Nat.le_of_ble_eq_true rfl) ?_
  show WA G t_X4_turnsTo (fun v_ N_ => v_ = some (.int (wFind (fun j => decide (sShow (M.1 18) (M.1 19) k ((seen + j * sStep (M.1 18 k)) % 4) = word)) (sMost (M.1 18 k) + 1))) ∧ N_ = M) 0 [(0, wm_r G (17)), (1, .int (nI (k))), (2, .int (nI (seen))), (3, .int (word))] [] (M)
  refine wa_iconst (0) dX4_turnsTo_0 (by decide) ?_
  refine wa_istore [(4, .int (0)), (0, wm_r G (17)), (1, .int (nI (k))), (2, .int (nI (seen))), (3, .int (word))] dX4_turnsTo_1 (by decide) rfl ?_
  have L_3 : ∀ (n_ : Nat) (j : Nat), (sMost (M.1 18 k) + 1 - j) < n_ → (j ≤ sMost (M.1 18 k) + 1) → (∀ i, i < j → (fun j => decide (sShow (M.1 18) (M.1 19) k ((seen + j * sStep (M.1 18 k)) % 4) = word)) i = false) → WA G t_X4_turnsTo (fun v_ N_ => v_ = some (.int (wFind (fun j => decide (sShow (M.1 18) (M.1 19) k ((seen + j * sStep (M.1 18 k)) % 4) = word)) (sMost (M.1 18 k) + 1))) ∧ N_ = M) 3 [(4, .int (nI (j))), (0, wm_r G (17)), (1, .int (nI (k))), (2, .int (nI (seen))), (3, .int (word))] [] (M) := by
    intro n_
    induction n_ with
    | zero => intro j h_; exact absurd h_ (Nat.not_lt_zero _)
    | succ n_ ih_3 =>
      intro j h_ hj hn
      refine wa_iload dX4_turnsTo_3 0 rfl ?_
      refine wa_aload_n dX4_turnsTo_5 rfl 1 rfl ?_
      refine wa_iload_n dX4_turnsTo_6 rfl 2 rfl ?_
      refine wa_cVi (m_mostTurns k hk) vX4_mostTurns iX4_turnsTo_7 (rfl) rfl rfl rfl (Nat.le_of_ble_eq_true rfl) ⟨by decide, by decide⟩ ?_
      refine wa_icmp_gtN (a := j) (b := sMost (M.1 18 k)) 43 dX4_turnsTo_10 (by decide) (by have := sMost_le (M.1 18 k); omega) (by have := sMost_le (M.1 18 k); omega) (fun c_10 => ?_) (fun c_10 => ?_)
      · refine wa_bipush (-9) dX4_turnsTo_43 (by decide) ?_
        exact wa_iret dX4_turnsTo_45 rfl ⟨congrArg (fun z => some (Value.int z)) ((wFind_none (fun i hi => hn i (by omega))).symm), rfl⟩
      · have hb : j * sStep (M.1 18 k) ≤ 4 * 2 := Nat.mul_le_mul (by have := sMost_le (M.1 18 k); omega) (sStep_le _)
        refine wa_aload_n dX4_turnsTo_13 rfl 1 rfl ?_
        refine wa_iload_n dX4_turnsTo_14 rfl 2 rfl ?_
        refine wa_iload_n dX4_turnsTo_15 rfl 3 rfl ?_
        refine wa_iload dX4_turnsTo_16 0 rfl ?_
        refine wa_aload_n dX4_turnsTo_18 rfl 1 rfl ?_
        refine wa_iload_n dX4_turnsTo_19 rfl 2 rfl ?_
        refine wa_cVi (m_step k hk) vX4_step iX4_turnsTo_20 (rfl) rfl rfl rfl (Nat.le_of_ble_eq_true rfl) ⟨by decide, by decide⟩ ?_
        refine wa_imulN (a := j) (b := sStep (M.1 18 k)) dX4_turnsTo_23 ?_
        refine wa_iaddN (a := seen) (b := j * (sStep (M.1 18 k))) dX4_turnsTo_24 ?_
        refine wa_iconst (3) dX4_turnsTo_25 (by decide) ?_
        refine wa_iand dX4_turnsTo_26 ?_
        refine wa_eqi (y := (nI ((seen + j * sStep (M.1 18 k)) % 4))) (nI_and3 (by omega)) ?_
        refine wa_cVi (m_shown k ((seen + j * sStep (M.1 18 k)) % 4) hk (Nat.mod_lt _ (by decide))) vX4_shown iX4_turnsTo_27 (rfl) rfl rfl rfl (Nat.le_of_ble_eq_true rfl) ⟨by decide, by decide⟩ ?_
        refine wa_iload_n dX4_turnsTo_30 rfl 4 rfl ?_
        refine wa_icmp_ne 37 dX4_turnsTo_31 (by decide) (fun c_31 => ?_) (fun c_31 => ?_)
        · refine wa_iinc ((nI (j + 1))) [(4, .int (nI (j + 1))), (0, wm_r G (17)), (1, .int (nI (k))), (2, .int (nI (seen))), (3, .int (word))] dX4_turnsTo_37 0 rfl (nI_inc _) (by decide) rfl ?_
          refine wa_goto 3 dX4_turnsTo_40 (by decide) ?_
          exact ih_3 (j + 1) (by omega) (by omega) (fun i hi => by rcases Nat.lt_or_eq_of_le (Nat.le_of_lt_succ hi) with q | q; exact hn i q; subst q; simp [c_31])
        · refine wa_iload dX4_turnsTo_34 0 rfl ?_
          exact wa_iret dX4_turnsTo_36 rfl ⟨congrArg (fun z => some (Value.int z)) ((wFind_some (by omega) (by simp [c_31]) hn).symm), rfl⟩
  exact L_3 _ 0 (Nat.lt_succ_self _) (Nat.zero_le _) (fun i hi => absurd hi (Nat.not_lt_zero _))

theorem m_bitCountI {G : wm_G} {M : wm_M} (n : Nat) (hn : n < 256) : MD G t_J6_bitCount_0f7a4 [.int (nI (n))] (M) (some (.int (nI (pcN n)))) (M) := by
  refine wm_met (by decide) (Nat.le_of_ble_eq_true rfl) ?_
  show WA G t_J6_bitCount_0f7a4 (fun v_ N_ => v_ = some (.int (nI (pcN n))) ∧ N_ = M) 0 [(0, .int (nI (n)))] [] (M)
  refine wa_iload_n dJ6_bitCount_0f7a4_0 rfl 0 rfl ?_
  refine wa_iload_n dJ6_bitCount_0f7a4_1 rfl 0 rfl ?_
  refine wa_iconst (1) dJ6_bitCount_0f7a4_2 (by decide) ?_
  refine wa_iushr dJ6_bitCount_0f7a4_3 ?_
  refine wa_ldcw (1431655765) dJ6_bitCount_0f7a4_4 kJ6_bitCount_0f7a4_4 ?_
  refine wa_iand dJ6_bitCount_0f7a4_7 ?_
  refine wa_isub dJ6_bitCount_0f7a4_8 ?_
  refine wa_topi (fun x1 e_x1 => ?_)
  refine wa_istore_n [(0, .int (x1))] dJ6_bitCount_0f7a4_9 rfl (by decide) rfl ?_
  refine wa_iload_n dJ6_bitCount_0f7a4_10 rfl 0 rfl ?_
  refine wa_ldcw (858993459) dJ6_bitCount_0f7a4_11 kJ6_bitCount_0f7a4_11 ?_
  refine wa_iand dJ6_bitCount_0f7a4_14 ?_
  refine wa_iload_n dJ6_bitCount_0f7a4_15 rfl 0 rfl ?_
  refine wa_iconst (2) dJ6_bitCount_0f7a4_16 (by decide) ?_
  refine wa_iushr dJ6_bitCount_0f7a4_17 ?_
  refine wa_ldcw (858993459) dJ6_bitCount_0f7a4_18 kJ6_bitCount_0f7a4_18 ?_
  refine wa_iand dJ6_bitCount_0f7a4_21 ?_
  refine wa_iadd dJ6_bitCount_0f7a4_22 ?_
  refine wa_topi (fun x2 e_x2 => ?_)
  refine wa_istore_n [(0, .int (x2))] dJ6_bitCount_0f7a4_23 rfl (by decide) rfl ?_
  refine wa_iload_n dJ6_bitCount_0f7a4_24 rfl 0 rfl ?_
  refine wa_iload_n dJ6_bitCount_0f7a4_25 rfl 0 rfl ?_
  refine wa_iconst (4) dJ6_bitCount_0f7a4_26 (by decide) ?_
  refine wa_iushr dJ6_bitCount_0f7a4_27 ?_
  refine wa_iadd dJ6_bitCount_0f7a4_28 ?_
  refine wa_ldcw (252645135) dJ6_bitCount_0f7a4_29 kJ6_bitCount_0f7a4_29 ?_
  refine wa_iand dJ6_bitCount_0f7a4_32 ?_
  refine wa_topi (fun x3 e_x3 => ?_)
  refine wa_istore_n [(0, .int (x3))] dJ6_bitCount_0f7a4_33 rfl (by decide) rfl ?_
  refine wa_iload_n dJ6_bitCount_0f7a4_34 rfl 0 rfl ?_
  refine wa_iload_n dJ6_bitCount_0f7a4_35 rfl 0 rfl ?_
  refine wa_bipush (8) dJ6_bitCount_0f7a4_36 (by decide) ?_
  refine wa_iushr dJ6_bitCount_0f7a4_38 ?_
  refine wa_iadd dJ6_bitCount_0f7a4_39 ?_
  refine wa_topi (fun x4 e_x4 => ?_)
  refine wa_istore_n [(0, .int (x4))] dJ6_bitCount_0f7a4_40 rfl (by decide) rfl ?_
  refine wa_iload_n dJ6_bitCount_0f7a4_41 rfl 0 rfl ?_
  refine wa_iload_n dJ6_bitCount_0f7a4_42 rfl 0 rfl ?_
  refine wa_bipush (16) dJ6_bitCount_0f7a4_43 (by decide) ?_
  refine wa_iushr dJ6_bitCount_0f7a4_45 ?_
  refine wa_iadd dJ6_bitCount_0f7a4_46 ?_
  refine wa_topi (fun x5 e_x5 => ?_)
  refine wa_istore_n [(0, .int (x5))] dJ6_bitCount_0f7a4_47 rfl (by decide) rfl ?_
  refine wa_iload_n dJ6_bitCount_0f7a4_48 rfl 0 rfl ?_
  refine wa_bipush (63) dJ6_bitCount_0f7a4_49 (by decide) ?_
  refine wa_iand dJ6_bitCount_0f7a4_51 ?_
  exact wa_iret dJ6_bitCount_0f7a4_52 rfl ⟨congrArg (fun z => some (Value.int z)) (by subst_vars; exact bc_i n hn), rfl⟩

theorem m_unlikeWords {G : wm_G} {M : wm_M} (k sb : Nat) (wn : Nat → Nat) (hk : k < 6) (hsb : sb < 16) (hwn : ∀ j, j < 24 → M.1 19 j = -1 ∨ (M.1 19 j = nI (wn j) ∧ wn j < 8)) : MD G t_X4_unlikeWords [wm_r G (17), .int (nI (k)), .int (nI (sb))] (M) (some (.int (nI (pcN (sSeen (fun side => decide (nI sb >>> (nI side &&& 31) &&& 1 = 1) && !decide (M.1 19 (4 * k + side) = -1)) (fun side => wn (4 * k + side)) 4))))) (M) := by
  refine wm_met (by decide) (Nat.le_of_ble_eq_true rfl) ?_
  show WA G t_X4_unlikeWords (fun v_ N_ => v_ = some (.int (nI (pcN (sSeen (fun side => decide (nI sb >>> (nI side &&& 31) &&& 1 = 1) && !decide (M.1 19 (4 * k + side) = -1)) (fun side => wn (4 * k + side)) 4)))) ∧ N_ = M) 0 [(0, wm_r G (17)), (1, .int (nI (k))), (2, .int (nI (sb)))] [] (M)
  refine wa_iconst (0) dX4_unlikeWords_0 (by decide) ?_
  refine wa_istore_n [(3, .int (0)), (0, wm_r G (17)), (1, .int (nI (k))), (2, .int (nI (sb)))] dX4_unlikeWords_1 rfl (by decide) rfl ?_
  refine wa_iconst (0) dX4_unlikeWords_2 (by decide) ?_
  refine wa_istore [(4, .int (0)), (3, .int (0)), (0, wm_r G (17)), (1, .int (nI (k))), (2, .int (nI (sb)))] dX4_unlikeWords_3 (by decide) rfl ?_
  have L_5 : ∀ (n_ : Nat) (side acc : Nat), (4 - side) < n_ → (side ≤ 4) → (acc = sSeen (fun side => decide (nI sb >>> (nI side &&& 31) &&& 1 = 1) && !decide (M.1 19 (4 * k + side) = -1)) (fun side => wn (4 * k + side)) side) → WA G t_X4_unlikeWords (fun v_ N_ => v_ = some (.int (nI (pcN (sSeen (fun side => decide (nI sb >>> (nI side &&& 31) &&& 1 = 1) && !decide (M.1 19 (4 * k + side) = -1)) (fun side => wn (4 * k + side)) 4)))) ∧ N_ = M) 5 [(4, .int (nI (side))), (3, .int (nI (acc))), (0, wm_r G (17)), (1, .int (nI (k))), (2, .int (nI (sb)))] [] (M) := by
    intro n_
    induction n_ with
    | zero => intro side acc h_; exact absurd h_ (Nat.not_lt_zero _)
    | succ n_ ih_5 =>
      intro side acc h_ hsd ha
      refine wa_iload dX4_unlikeWords_5 0 rfl ?_
      refine wa_iconst (4) dX4_unlikeWords_7 (by decide) ?_
      refine wa_icmp_geN (a := side) (b := 4) 53 dX4_unlikeWords_8 (by decide) (by omega) (by omega) (fun c_8 => ?_) (fun c_8 => ?_)
      · refine wa_iload_n dX4_unlikeWords_53 rfl 1 rfl ?_
        refine wa_cSi (m_bitCountI acc (by rw [ha]; exact sSeen_lt (fun i hi hp => by rcases hwn (4 * k + i) (by omega) with q | q; simp [q] at hp; exact q.2))) vJ6_bitCount_0f7a4 iX4_unlikeWords_54 rfl rfl (Nat.le_of_ble_eq_true rfl) ⟨by decide, by decide⟩ ?_
        exact wa_iret dX4_unlikeWords_57 rfl ⟨congrArg (fun z => some (Value.int z)) (by rw [ha, show side = 4 by omega]), rfl⟩
      · refine wa_aload_n dX4_unlikeWords_11 rfl 2 rfl ?_
        refine wa_getr gX4_unlikeWords_12 (rfl) rfl ?_
        refine wa_iconst (4) dX4_unlikeWords_15 (by decide) ?_
        refine wa_iload_n dX4_unlikeWords_16 rfl 3 rfl ?_
        refine wa_imulN (a := 4) (b := k) dX4_unlikeWords_17 ?_
        refine wa_iload dX4_unlikeWords_18 0 rfl ?_
        refine wa_iaddN (a := 4 * k) (b := side) dX4_unlikeWords_20 ?_
        refine wa_ialdN (e := 4 * k + side) dX4_unlikeWords_21 (rfl) (by omega) (by decide) ?_
        refine wa_topi (fun word e_word => ?_)
        refine wa_istore [(5, .int (word)), (4, .int (nI (side))), (3, .int (nI (acc))), (0, wm_r G (17)), (1, .int (nI (k))), (2, .int (nI (sb)))] dX4_unlikeWords_22 (by decide) rfl ?_
        refine wa_iload_n dX4_unlikeWords_24 rfl 5 rfl ?_
        refine wa_iload dX4_unlikeWords_25 1 rfl ?_
        refine wa_ishr dX4_unlikeWords_27 ?_
        refine wa_iconst (1) dX4_unlikeWords_28 (by decide) ?_
        refine wa_iand dX4_unlikeWords_29 ?_
        refine wa_iconst (1) dX4_unlikeWords_30 (by decide) ?_
        refine wa_icmp_ne 47 dX4_unlikeWords_31 (by decide) (fun c_31 => ?_) (fun c_31 => ?_)
        · refine wa_iinc ((nI (side + 1))) [(4, .int (nI (side + 1))), (5, .int (word)), (3, .int (nI (acc))), (0, wm_r G (17)), (1, .int (nI (k))), (2, .int (nI (sb)))] dX4_unlikeWords_47 1 rfl (nI_inc _) (by decide) rfl ?_
          refine wa_goto 5 dX4_unlikeWords_50 (by decide) ?_
          refine wa_sub [0, 2, 3, 4, 5] rfl ?_
          exact ih_5 (side + 1) _ (by omega) (by omega) (by subst e_word; simp_all [sSeen])
        · refine wa_iload dX4_unlikeWords_34 0 rfl ?_
          refine wa_iconst (-1) dX4_unlikeWords_36 (by decide) ?_
          refine wa_icmp_eq 47 dX4_unlikeWords_37 (by decide) (fun c_37 => ?_) (fun c_37 => ?_)
          · refine wa_iinc ((nI (side + 1))) [(4, .int (nI (side + 1))), (5, .int (word)), (3, .int (nI (acc))), (0, wm_r G (17)), (1, .int (nI (k))), (2, .int (nI (sb)))] dX4_unlikeWords_47 1 rfl (nI_inc _) (by decide) rfl ?_
            refine wa_goto 5 dX4_unlikeWords_50 (by decide) ?_
            refine wa_sub [0, 2, 3, 4, 5] rfl ?_
            exact ih_5 (side + 1) _ (by omega) (by omega) (by subst e_word; simp_all [sSeen])
          · have hq : word = nI (wn (4 * k + side)) ∧ wn (4 * k + side) < 8 := by
              rcases hwn (4 * k + side) (by omega) with q | q
              · exact absurd (e_word.trans q) c_37
              · exact ⟨e_word.trans q.1, q.2⟩
            refine wa_iload_n dX4_unlikeWords_40 rfl 2 rfl ?_
            refine wa_iconst (1) dX4_unlikeWords_41 (by decide) ?_
            refine wa_iload dX4_unlikeWords_42 0 rfl ?_
            refine wa_ishl dX4_unlikeWords_44 ?_
            refine wa_ior dX4_unlikeWords_45 ?_
            refine wa_eqi (y := (nI (acc ||| 2 ^ wn (4 * k + side)))) (by rw [hq.1, nI_pow _ (by omega), nI_or]) ?_
            refine wa_istore_n [(3, .int (nI (acc ||| 2 ^ wn (4 * k + side)))), (5, .int (word)), (4, .int (nI (side))), (0, wm_r G (17)), (1, .int (nI (k))), (2, .int (nI (sb)))] dX4_unlikeWords_46 rfl (by decide) rfl ?_
            refine wa_iinc ((nI (side + 1))) [(4, .int (nI (side + 1))), (3, .int (nI (acc ||| 2 ^ wn (4 * k + side)))), (5, .int (word)), (0, wm_r G (17)), (1, .int (nI (k))), (2, .int (nI (sb)))] dX4_unlikeWords_47 2 rfl (nI_inc _) (by decide) rfl ?_
            refine wa_goto 5 dX4_unlikeWords_50 (by decide) ?_
            refine wa_sub [0, 1, 3, 4, 5] rfl ?_
            exact ih_5 (side + 1) _ (by omega) (by omega) (by subst e_word; simp_all [sSeen])
  exact L_5 _ 0 0 (Nat.lt_succ_self _) (by omega) rfl
