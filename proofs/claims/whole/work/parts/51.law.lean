theorem m_lastStart {G : wm_G} {M : wm_M} (w h : Nat) (hW : TW M w h) (l z : Nat) (hL : LZ M l z) (st : Nat) (hst : st < 100) : MD G t_X0_lastStart [wm_r G (28), .int (nI (l)), .int (nI (st))] (M) (some (.int (nI (sLen w h st) - nI z))) (M) := by
  obtain ⟨hl4, hz, hz1, hz3⟩ := id hL
  have hn6 := TW_n hW
  obtain ⟨hw, hh, hw3, hh2⟩ := id hW
  refine wm_met (by decide) (Nat.le_of_ble_eq_true rfl) ?_
  show WA G t_X0_lastStart (fun v_ N_ => v_ = some (.int (nI (sLen w h st) - nI z)) ∧ N_ = M) 0 [(0, wm_r G (28)), (1, .int (nI (l))), (2, .int (nI (st)))] [] (M)
  refine wa_aload_n dX0_lastStart_0 rfl 0 rfl ?_
  refine wa_getr gX0_lastStart_1 (rfl) rfl ?_
  refine wa_iload_n dX0_lastStart_4 rfl 2 rfl ?_
  refine wa_cVi (m_length w h hW st hst) vX4_length iX0_lastStart_5 (rfl) rfl rfl rfl (Nat.le_of_ble_eq_true rfl) ⟨by decide, by decide⟩ ?_
  refine wa_aload_n dX0_lastStart_8 rfl 0 rfl ?_
  refine wa_getr gX0_lastStart_9 (rfl) rfl ?_
  refine wa_iload_n dX0_lastStart_12 rfl 1 rfl ?_
  refine wa_cVi (m_sizeN 29 4 3 TB_laws l hl4) vX5_size iX0_lastStart_13 (rfl) rfl rfl rfl (Nat.le_of_ble_eq_true rfl) ⟨by decide, by decide⟩ ?_
  refine wa_eqi (y := (nI (z))) (by rw [show M.1 (29 + 2 + 4) l = nI z from hz, nI_clamp (by omega)]) ?_
  refine wa_isub dX0_lastStart_16 ?_
  exact wa_iret dX0_lastStart_17 rfl ⟨congrArg (fun z => some (Value.int z)) (rfl), rfl⟩

theorem m_wordLevel {G : wm_G} {M : wm_M} (k side : Nat) (word : Int32) (hk : k < 6) (hs : side < 4) : MD G t_X0_wordLevel [wm_r G (28), .int (nI (k)), .int (nI (side)), .int (word)] (M) (some (.int (nI (wordLv (M.1 18) (M.1 19) (M.1 20) (M.1 21) k side word)))) (M) := by
  refine wm_met (by decide) (Nat.le_of_ble_eq_true rfl) ?_
  show WA G t_X0_wordLevel (fun v_ N_ => v_ = some (.int (nI (wordLv (M.1 18) (M.1 19) (M.1 20) (M.1 21) k side word))) ∧ N_ = M) 0 [(0, wm_r G (28)), (1, .int (nI (k))), (2, .int (nI (side))), (3, .int (word))] [] (M)
  refine wa_aload_n dX0_wordLevel_0 rfl 0 rfl ?_
  refine wa_getr gX0_wordLevel_1 (rfl) rfl ?_
  refine wa_getr gX0_wordLevel_4 (rfl) rfl ?_
  refine wa_iload_n dX0_wordLevel_7 rfl 1 rfl ?_
  refine wa_ialdN (e := k) dX0_wordLevel_8 (rfl) (by omega) (by decide) ?_
  refine wa_iload_n dX0_wordLevel_9 rfl 2 rfl ?_
  refine wa_icmp_ne 17 dX0_wordLevel_10 (by decide) (fun c_10 => ?_) (fun c_10 => ?_)
  · refine wa_iconst (0) dX0_wordLevel_17 (by decide) ?_
    refine wa_istore [(4, .int (0)), (0, wm_r G (28)), (1, .int (nI (k))), (2, .int (nI (side))), (3, .int (word))] dX0_wordLevel_18 (by decide) rfl ?_
    refine wa_aload_n dX0_wordLevel_20 rfl 1 rfl ?_
    refine wa_getr gX0_wordLevel_21 (rfl) rfl ?_
    refine wa_iload_n dX0_wordLevel_24 rfl 2 rfl ?_
    refine wa_iload_n dX0_wordLevel_25 rfl 3 rfl ?_
    refine wa_cVi (m_shown k side hk hs) vX4_shown iX0_wordLevel_26 (rfl) rfl rfl rfl (Nat.le_of_ble_eq_true rfl) ⟨by decide, by decide⟩ ?_
    refine wa_iload_n dX0_wordLevel_29 rfl 4 rfl ?_
    refine wa_icmp_ne 44 dX0_wordLevel_30 (by decide) (fun c_30 => ?_) (fun c_30 => ?_)
    · refine wa_iload dX0_wordLevel_44 0 rfl ?_
      refine wa_if_eq 79 dX0_wordLevel_46 (by decide) (fun c_46 => ?_) (fun c_46 => absurd c_46 (by decide))
      refine wa_iconst (0) dX0_wordLevel_79 (by decide) ?_
      exact wa_iret dX0_wordLevel_80 rfl ⟨congrArg (fun z => some (Value.int z)) (by first | (simp [wordLv, c_30, c_10]; rfl) | (simp [wordLv, c_30, c_10, c_59]; rfl) | (simp [wordLv, c_30, c_10, c_59, c_72]; rfl)), rfl⟩
    · refine wa_iload dX0_wordLevel_33 0 rfl ?_
      refine wa_if_eq 42 dX0_wordLevel_35 (by decide) (fun c_35 => ?_) (fun c_35 => absurd c_35 (by decide))
      refine wa_iconst (3) dX0_wordLevel_42 (by decide) ?_
      exact wa_iret dX0_wordLevel_43 rfl ⟨congrArg (fun z => some (Value.int z)) (by simp [wordLv, c_30, c_10]; rfl), rfl⟩
  · refine wa_iconst (1) dX0_wordLevel_13 (by decide) ?_
    refine wa_goto 18 dX0_wordLevel_14 (by decide) ?_
    refine wa_istore [(4, .int (1)), (0, wm_r G (28)), (1, .int (nI (k))), (2, .int (nI (side))), (3, .int (word))] dX0_wordLevel_18 (by decide) rfl ?_
    refine wa_aload_n dX0_wordLevel_20 rfl 1 rfl ?_
    refine wa_getr gX0_wordLevel_21 (rfl) rfl ?_
    refine wa_iload_n dX0_wordLevel_24 rfl 2 rfl ?_
    refine wa_iload_n dX0_wordLevel_25 rfl 3 rfl ?_
    refine wa_cVi (m_shown k side hk hs) vX4_shown iX0_wordLevel_26 (rfl) rfl rfl rfl (Nat.le_of_ble_eq_true rfl) ⟨by decide, by decide⟩ ?_
    refine wa_iload_n dX0_wordLevel_29 rfl 4 rfl ?_
    refine wa_icmp_ne 44 dX0_wordLevel_30 (by decide) (fun c_30 => ?_) (fun c_30 => ?_)
    · refine wa_iload dX0_wordLevel_44 0 rfl ?_
      refine wa_if_eq 79 dX0_wordLevel_46 (by decide) (fun c_46 => absurd c_46 (by decide)) (fun c_46 => ?_)
      refine wa_aload_n dX0_wordLevel_49 rfl 1 rfl ?_
      refine wa_getr gX0_wordLevel_50 (rfl) rfl ?_
      refine wa_getr gX0_wordLevel_53 (rfl) rfl ?_
      refine wa_iload_n dX0_wordLevel_56 rfl 2 rfl ?_
      refine wa_ialdN (e := k) dX0_wordLevel_57 (rfl) (by omega) (by decide) ?_
      refine wa_iconst (1) dX0_wordLevel_58 (by decide) ?_
      refine wa_icmp_ne 79 dX0_wordLevel_59 (by decide) (fun c_59 => ?_) (fun c_59 => ?_)
      · refine wa_iconst (0) dX0_wordLevel_79 (by decide) ?_
        exact wa_iret dX0_wordLevel_80 rfl ⟨congrArg (fun z => some (Value.int z)) (by first | (simp [wordLv, c_30, c_10]; rfl) | (simp [wordLv, c_30, c_10, c_59]; rfl) | (simp [wordLv, c_30, c_10, c_59, c_72]; rfl)), rfl⟩
      · refine wa_aload_n dX0_wordLevel_62 rfl 1 rfl ?_
        refine wa_getr gX0_wordLevel_63 (rfl) rfl ?_
        refine wa_getr gX0_wordLevel_66 (rfl) rfl ?_
        refine wa_iload_n dX0_wordLevel_69 rfl 2 rfl ?_
        refine wa_ialdN (e := k) dX0_wordLevel_70 (rfl) (by omega) (by decide) ?_
        refine wa_iload_n dX0_wordLevel_71 rfl 4 rfl ?_
        refine wa_icmp_ne 79 dX0_wordLevel_72 (by decide) (fun c_72 => ?_) (fun c_72 => ?_)
        · refine wa_iconst (0) dX0_wordLevel_79 (by decide) ?_
          exact wa_iret dX0_wordLevel_80 rfl ⟨congrArg (fun z => some (Value.int z)) (by first | (simp [wordLv, c_30, c_10]; rfl) | (simp [wordLv, c_30, c_10, c_59]; rfl) | (simp [wordLv, c_30, c_10, c_59, c_72]; rfl)), rfl⟩
        · refine wa_iconst (1) dX0_wordLevel_75 (by decide) ?_
          refine wa_goto 80 dX0_wordLevel_76 (by decide) ?_
          exact wa_iret dX0_wordLevel_80 rfl ⟨congrArg (fun z => some (Value.int z)) (by first | (simp [wordLv, c_30, c_10]; rfl) | (simp [wordLv, c_30, c_10, c_59]; rfl) | (simp [wordLv, c_30, c_10, c_59, c_72]; rfl)), rfl⟩
    · refine wa_iload dX0_wordLevel_33 0 rfl ?_
      refine wa_if_eq 42 dX0_wordLevel_35 (by decide) (fun c_35 => absurd c_35 (by decide)) (fun c_35 => ?_)
      refine wa_iconst (2) dX0_wordLevel_38 (by decide) ?_
      refine wa_goto 43 dX0_wordLevel_39 (by decide) ?_
      exact wa_iret dX0_wordLevel_43 rfl ⟨congrArg (fun z => some (Value.int z)) (by simp [wordLv, c_30, c_10]; rfl), rfl⟩

theorem m_levelAt {G : wm_G} {M : wm_M} (w h : Nat) (hW : TW M w h) (l z : Nat) (hL : LZ M l z) (s st e : Nat) (hs : s < 4096) (hst : st < w + h) (he : e < 2) (start : Nat) (hstart : start + z ≤ sLen w h st) : MD G t_X0_levelAt [wm_r G (28), .int (nI (l)), .int (nI (s)), .int (nI (st)), .int (nI (e)), .int (nI (start))] (M) (some (.int (nI (levAt w h (M.1 18) (M.1 19) (M.1 20) (M.1 21) (M.1 (31 + l)) z s st e start)))) (M) := by
  obtain ⟨hl4, hz, hz1, hz3⟩ := id hL
  have hn6 := TW_n hW
  obtain ⟨hw, hh, hw3, hh2⟩ := id hW
  have hlen : sLen w h st ≤ 3 := by unfold sLen; split <;> omega
  refine wm_met (by decide) (Nat.le_of_ble_eq_true rfl) ?_
  show WA G t_X0_levelAt (fun v_ N_ => v_ = some (.int (nI (levAt w h (M.1 18) (M.1 19) (M.1 20) (M.1 21) (M.1 (31 + l)) z s st e start))) ∧ N_ = M) 0 [(0, wm_r G (28)), (1, .int (nI (l))), (2, .int (nI (s))), (3, .int (nI (st))), (4, .int (nI (e))), (5, .int (nI (start)))] [] (M)
  refine wa_iconst (3) dX0_levelAt_0 (by decide) ?_
  refine wa_istore [(6, .int (3)), (0, wm_r G (28)), (1, .int (nI (l))), (2, .int (nI (s))), (3, .int (nI (st))), (4, .int (nI (e))), (5, .int (nI (start)))] dX0_levelAt_1 (by decide) rfl ?_
  refine wa_iconst (0) dX0_levelAt_3 (by decide) ?_
  refine wa_istore [(7, .int (0)), (6, .int (3)), (0, wm_r G (28)), (1, .int (nI (l))), (2, .int (nI (s))), (3, .int (nI (st))), (4, .int (nI (e))), (5, .int (nI (start)))] dX0_levelAt_4 (by decide) rfl ?_
  have L_6 : ∀ (n_ : Nat) (i c : Nat), (z - i) < n_ → (i ≤ z) → (c = minF (fun i => wordLv (M.1 18) (M.1 19) (M.1 20) (M.1 21) (sAt w h st e (start + i)) (sSide h s (sAt w h st e (start + i)) st e) (M.1 (31 + l) i)) i) → WA G t_X0_levelAt (fun v_ N_ => v_ = some (.int (nI (levAt w h (M.1 18) (M.1 19) (M.1 20) (M.1 21) (M.1 (31 + l)) z s st e start))) ∧ N_ = M) 6 [(7, .int (nI (i))), (6, .int (nI (c))), (0, wm_r G (28)), (1, .int (nI (l))), (2, .int (nI (s))), (3, .int (nI (st))), (4, .int (nI (e))), (5, .int (nI (start)))] [] (M) := by
    intro n_
    induction n_ with
    | zero => intro i c h_; exact absurd h_ (Nat.not_lt_zero _)
    | succ n_ ih_6 =>
      intro i c h_ hi hc
      refine wa_iload dX0_levelAt_6 0 rfl ?_
      refine wa_aload_n dX0_levelAt_8 rfl 2 rfl ?_
      refine wa_getr gX0_levelAt_9 (rfl) rfl ?_
      refine wa_iload_n dX0_levelAt_12 rfl 3 rfl ?_
      refine wa_cVi (m_sizeN 29 4 3 TB_laws l hl4) vX5_size iX0_levelAt_13 (rfl) rfl rfl rfl (Nat.le_of_ble_eq_true rfl) ⟨by decide, by decide⟩ ?_
      refine wa_eqi (y := (nI (z))) (by rw [show M.1 (29 + 2 + 4) l = nI z from hz, nI_clamp (by omega)]) ?_
      refine wa_icmp_geN (a := i) (b := z) 82 dX0_levelAt_16 (by decide) (by omega) (by omega) (fun c_16 => ?_) (fun c_16 => ?_)
      · refine wa_iload dX0_levelAt_82 1 rfl ?_
        exact wa_iret dX0_levelAt_84 rfl ⟨congrArg (fun z => some (Value.int z)) (by rw [hc, show i = z by omega]; rfl), rfl⟩
      · have hk := sAt_lt (e := e) hst (show start + i < sLen w h st by omega)
        have hc3 : c ≤ 3 := by rw [hc]; exact minF_le _ _
        have hw9 := wordLv_le (M.1 18) (M.1 19) (M.1 20) (M.1 21) (sAt w h st e (start + i)) (sSide h s (sAt w h st e (start + i)) st e) (M.1 (31 + l) i)
        refine wa_aload_n dX0_levelAt_19 rfl 2 rfl ?_
        refine wa_getr gX0_levelAt_20 (rfl) rfl ?_
        refine wa_iload_n dX0_levelAt_23 rfl 5 rfl ?_
        refine wa_iload dX0_levelAt_24 6 rfl ?_
        refine wa_iload dX0_levelAt_26 7 rfl ?_
        refine wa_iload dX0_levelAt_28 0 rfl ?_
        refine wa_iaddN (a := start) (b := i) dX0_levelAt_30 ?_
        refine wa_cVi (m_stoneAt w h hW st e (start + i) (by omega) he (by omega)) vX4_stoneAt iX0_levelAt_31 (rfl) rfl rfl rfl (Nat.le_of_ble_eq_true rfl) ⟨by decide, by decide⟩ ?_
        refine wa_istore [(8, .int (nI (sAt w h st e (start + i)))), (7, .int (nI (i))), (6, .int (nI (c))), (0, wm_r G (28)), (1, .int (nI (l))), (2, .int (nI (s))), (3, .int (nI (st))), (4, .int (nI (e))), (5, .int (nI (start)))] dX0_levelAt_34 (by decide) rfl ?_
        refine wa_aload_n dX0_levelAt_36 rfl 3 rfl ?_
        refine wa_getr gX0_levelAt_37 (rfl) rfl ?_
        refine wa_iload_n dX0_levelAt_40 rfl 5 rfl ?_
        refine wa_iload dX0_levelAt_41 0 rfl ?_
        refine wa_iload_n dX0_levelAt_43 rfl 6 rfl ?_
        refine wa_iload dX0_levelAt_44 7 rfl ?_
        refine wa_cVi (m_sideRead w h hW s (sAt w h st e (start + i)) st e hs (by omega) (by omega) he) vX4_sideRead iX0_levelAt_46 (rfl) rfl rfl rfl (Nat.le_of_ble_eq_true rfl) ⟨by decide, by decide⟩ ?_
        refine wa_istore [(9, .int (nI (sSide h s (sAt w h st e (start + i)) st e))), (8, .int (nI (sAt w h st e (start + i)))), (7, .int (nI (i))), (6, .int (nI (c))), (0, wm_r G (28)), (1, .int (nI (l))), (2, .int (nI (s))), (3, .int (nI (st))), (4, .int (nI (e))), (5, .int (nI (start)))] dX0_levelAt_49 (by decide) rfl ?_
        refine wa_iload dX0_levelAt_51 3 rfl ?_
        refine wa_aload_n dX0_levelAt_53 rfl 4 rfl ?_
        refine wa_iload dX0_levelAt_54 1 rfl ?_
        refine wa_iload dX0_levelAt_56 0 rfl ?_
        refine wa_aload_n dX0_levelAt_58 rfl 4 rfl ?_
        refine wa_getr gX0_levelAt_59 (rfl) rfl ?_
        refine wa_iload_n dX0_levelAt_62 rfl 5 rfl ?_
        refine wa_iload dX0_levelAt_63 2 rfl ?_
        refine wa_cVi (m_getN 29 4 3 TB_laws l (i) z hl4 (by omega) hz hz3) vX5_get iX0_levelAt_65 (rfl) rfl rfl rfl (Nat.le_of_ble_eq_true rfl) ⟨by decide, by decide⟩ ?_
        refine wa_eqi (y := (M.1 (31 + l) i)) (by rw [if_pos (by omega)]) ?_
        refine wa_cVi (m_wordLevel (sAt w h st e (start + i)) (sSide h s (sAt w h st e (start + i)) st e) (M.1 (31 + l) i) (by omega) (Nat.mod_lt _ (by decide))) vX0_wordLevel iX0_levelAt_68 (rfl) rfl rfl rfl (Nat.le_of_ble_eq_true rfl) ⟨by decide, by decide⟩ ?_
        refine wa_min iX0_levelAt_71 ⟨by decide, Nat.le_of_ble_eq_true rfl⟩ ?_
        refine wa_eqi (y := (nI (min c ((fun i => wordLv (M.1 18) (M.1 19) (M.1 20) (M.1 21) (sAt w h st e (start + i)) (sSide h s (sAt w h st e (start + i)) st e) (M.1 (31 + l) i)) i)))) (nI_min (by omega) (by omega)) ?_
        refine wa_istore [(6, .int (nI (min c ((fun i => wordLv (M.1 18) (M.1 19) (M.1 20) (M.1 21) (sAt w h st e (start + i)) (sSide h s (sAt w h st e (start + i)) st e) (M.1 (31 + l) i)) i)))), (9, .int (nI (sSide h s (sAt w h st e (start + i)) st e))), (8, .int (nI (sAt w h st e (start + i)))), (7, .int (nI (i))), (0, wm_r G (28)), (1, .int (nI (l))), (2, .int (nI (s))), (3, .int (nI (st))), (4, .int (nI (e))), (5, .int (nI (start)))] dX0_levelAt_74 (by decide) rfl ?_
        refine wa_iinc ((nI (i + 1))) [(7, .int (nI (i + 1))), (6, .int (nI (min c ((fun i => wordLv (M.1 18) (M.1 19) (M.1 20) (M.1 21) (sAt w h st e (start + i)) (sSide h s (sAt w h st e (start + i)) st e) (M.1 (31 + l) i)) i)))), (9, .int (nI (sSide h s (sAt w h st e (start + i)) st e))), (8, .int (nI (sAt w h st e (start + i)))), (0, wm_r G (28)), (1, .int (nI (l))), (2, .int (nI (s))), (3, .int (nI (st))), (4, .int (nI (e))), (5, .int (nI (start)))] dX0_levelAt_76 3 rfl (nI_inc _) (by decide) rfl ?_
        refine wa_goto 6 dX0_levelAt_79 (by decide) ?_
        refine wa_sub [0, 1, 4, 5, 6, 7, 8, 9] rfl ?_
        exact ih_6 (i + 1) _ (by omega) (by omega) (by rw [hc]; rfl)
  exact L_6 _ 0 3 (Nat.lt_succ_self _) (Nat.zero_le _) rfl

theorem m_levelIn {G : wm_G} {M : wm_M} (w h : Nat) (hW : TW M w h) (l z : Nat) (hL : LZ M l z) (s st e : Nat) (hs : s < 4096) (hst : st < w + h) (he : e < 2) : MD G t_X0_levelIn [wm_r G (28), .int (nI (l)), .int (nI (s)), .int (nI (st)), .int (nI (e))] (M) (some (.int (nI (levIn w h (M.1 18) (M.1 19) (M.1 20) (M.1 21) (M.1 (31 + l)) z s st e)))) (M) := by
  obtain ⟨hl4, hz, hz1, hz3⟩ := id hL
  have hn6 := TW_n hW
  obtain ⟨hw, hh, hw3, hh2⟩ := id hW
  have hlen : sLen w h st ≤ 3 := by unfold sLen; split <;> omega
  refine wm_met (by decide) (Nat.le_of_ble_eq_true rfl) ?_
  show WA G t_X0_levelIn (fun v_ N_ => v_ = some (.int (nI (levIn w h (M.1 18) (M.1 19) (M.1 20) (M.1 21) (M.1 (31 + l)) z s st e))) ∧ N_ = M) 0 [(0, wm_r G (28)), (1, .int (nI (l))), (2, .int (nI (s))), (3, .int (nI (st))), (4, .int (nI (e)))] [] (M)
  refine wa_iconst (0) dX0_levelIn_0 (by decide) ?_
  refine wa_istore [(5, .int (0)), (0, wm_r G (28)), (1, .int (nI (l))), (2, .int (nI (s))), (3, .int (nI (st))), (4, .int (nI (e)))] dX0_levelIn_1 (by decide) rfl ?_
  refine wa_iconst (0) dX0_levelIn_3 (by decide) ?_
  refine wa_istore [(6, .int (0)), (5, .int (0)), (0, wm_r G (28)), (1, .int (nI (l))), (2, .int (nI (s))), (3, .int (nI (st))), (4, .int (nI (e)))] dX0_levelIn_4 (by decide) rfl ?_
  have L_6 : ∀ (n_ : Nat) (b c : Nat), (sLen w h st + 1 - z - b) < n_ → (b ≤ sLen w h st + 1 - z) → (c = maxF (levAt w h (M.1 18) (M.1 19) (M.1 20) (M.1 21) (M.1 (31 + l)) z s st e) b) → WA G t_X0_levelIn (fun v_ N_ => v_ = some (.int (nI (levIn w h (M.1 18) (M.1 19) (M.1 20) (M.1 21) (M.1 (31 + l)) z s st e))) ∧ N_ = M) 6 [(6, .int (nI (b))), (5, .int (nI (c))), (0, wm_r G (28)), (1, .int (nI (l))), (2, .int (nI (s))), (3, .int (nI (st))), (4, .int (nI (e)))] [] (M) := by
    intro n_
    induction n_ with
    | zero => intro b c h_; exact absurd h_ (Nat.not_lt_zero _)
    | succ n_ ih_6 =>
      intro b c h_ hb hc
      refine wa_iload dX0_levelIn_6 0 rfl ?_
      refine wa_aload_n dX0_levelIn_8 rfl 2 rfl ?_
      refine wa_iload_n dX0_levelIn_9 rfl 3 rfl ?_
      refine wa_iload_n dX0_levelIn_10 rfl 5 rfl ?_
      refine wa_cVi (m_lastStart w h hW l z hL st (by omega)) vX0_lastStart iX0_levelIn_11 (rfl) rfl rfl rfl (Nat.le_of_ble_eq_true rfl) ⟨by decide, by decide⟩ ?_
      refine wa_icmp_gt 41 dX0_levelIn_14 (by decide) (fun c_14 => ?_) (fun c_14 => ?_)
      · have hlt := (ls_iff (by omega) (by omega) (by omega)).mp c_14
        refine wa_iload dX0_levelIn_41 1 rfl ?_
        exact wa_iret dX0_levelIn_43 rfl ⟨congrArg (fun z => some (Value.int z)) (by rw [hc]; unfold levIn; rw [show b = sLen w h st + 1 - z by omega]), rfl⟩
      · have hlt : ¬ sLen w h st < b + z := fun q => c_14 ((ls_iff (by omega) (by omega) (by omega)).mpr q)
        have hc3 : c ≤ 3 := by rw [hc]; exact maxF_le (fun _ _ => levAt_le)
        have hl9 : levAt w h (M.1 18) (M.1 19) (M.1 20) (M.1 21) (M.1 (31 + l)) z s st e b ≤ 3 := levAt_le
        refine wa_iload dX0_levelIn_17 1 rfl ?_
        refine wa_aload_n dX0_levelIn_19 rfl 2 rfl ?_
        refine wa_iload_n dX0_levelIn_20 rfl 3 rfl ?_
        refine wa_iload_n dX0_levelIn_21 rfl 4 rfl ?_
        refine wa_iload_n dX0_levelIn_22 rfl 5 rfl ?_
        refine wa_iload dX0_levelIn_23 6 rfl ?_
        refine wa_iload dX0_levelIn_25 0 rfl ?_
        refine wa_cVi (m_levelAt w h hW l z hL s st e hs hst he b (by omega)) vX0_levelAt iX0_levelIn_27 (rfl) rfl rfl rfl (Nat.le_of_ble_eq_true rfl) ⟨by decide, by decide⟩ ?_
        refine wa_max iX0_levelIn_30 ⟨by decide, Nat.le_of_ble_eq_true rfl⟩ ?_
        refine wa_eqi (y := (nI (max c (levAt w h (M.1 18) (M.1 19) (M.1 20) (M.1 21) (M.1 (31 + l)) z s st e b)))) (nI_max (by omega) (by omega)) ?_
        refine wa_istore [(5, .int (nI (max c (levAt w h (M.1 18) (M.1 19) (M.1 20) (M.1 21) (M.1 (31 + l)) z s st e b)))), (6, .int (nI (b))), (0, wm_r G (28)), (1, .int (nI (l))), (2, .int (nI (s))), (3, .int (nI (st))), (4, .int (nI (e)))] dX0_levelIn_33 (by decide) rfl ?_
        refine wa_iinc ((nI (b + 1))) [(6, .int (nI (b + 1))), (5, .int (nI (max c (levAt w h (M.1 18) (M.1 19) (M.1 20) (M.1 21) (M.1 (31 + l)) z s st e b)))), (0, wm_r G (28)), (1, .int (nI (l))), (2, .int (nI (s))), (3, .int (nI (st))), (4, .int (nI (e)))] dX0_levelIn_35 1 rfl (nI_inc _) (by decide) rfl ?_
        refine wa_goto 6 dX0_levelIn_38 (by decide) ?_
        exact ih_6 (b + 1) _ (by omega) (by omega) (by rw [hc]; rfl)
  exact L_6 _ 0 0 (Nat.lt_succ_self _) (Nat.zero_le _) rfl

theorem m_level {G : wm_G} {M : wm_M} (w h : Nat) (hW : TW M w h) (l z : Nat) (hL : LZ M l z) (s : Nat) (hs : s < 4096) : MD G t_X0_level [wm_r G (28), .int (nI (l)), .int (nI (s))] (M) (some (.int (nI (levB w h (M.1 18) (M.1 19) (M.1 20) (M.1 21) (M.1 (31 + l)) z s)))) (M) := by
  obtain ⟨hl4, hz, hz1, hz3⟩ := id hL
  have hn6 := TW_n hW
  obtain ⟨hw, hh, hw3, hh2⟩ := id hW
  refine wm_met (by decide) (Nat.le_of_ble_eq_true rfl) ?_
  show WA G t_X0_level (fun v_ N_ => v_ = some (.int (nI (levB w h (M.1 18) (M.1 19) (M.1 20) (M.1 21) (M.1 (31 + l)) z s))) ∧ N_ = M) 0 [(0, wm_r G (28)), (1, .int (nI (l))), (2, .int (nI (s)))] [] (M)
  refine wa_iconst (0) dX0_level_0 (by decide) ?_
  refine wa_istore_n [(3, .int (0)), (0, wm_r G (28)), (1, .int (nI (l))), (2, .int (nI (s)))] dX0_level_1 rfl (by decide) rfl ?_
  refine wa_iconst (0) dX0_level_2 (by decide) ?_
  refine wa_istore [(4, .int (0)), (3, .int (0)), (0, wm_r G (28)), (1, .int (nI (l))), (2, .int (nI (s)))] dX0_level_3 (by decide) rfl ?_
  have L_5 : ∀ (n_ : Nat) (st c : Nat), (w + h - st) < n_ → (st ≤ w + h) → (c = maxF (fun st => maxF (fun e => levIn w h (M.1 18) (M.1 19) (M.1 20) (M.1 21) (M.1 (31 + l)) z s st e) 2) st) → WA G t_X0_level (fun v_ N_ => v_ = some (.int (nI (levB w h (M.1 18) (M.1 19) (M.1 20) (M.1 21) (M.1 (31 + l)) z s))) ∧ N_ = M) 5 [(4, .int (nI (st))), (3, .int (nI (c))), (0, wm_r G (28)), (1, .int (nI (l))), (2, .int (nI (s)))] [] (M) := by
    intro n_
    induction n_ with
    | zero => intro st c h_; exact absurd h_ (Nat.not_lt_zero _)
    | succ n_ ih_5 =>
      intro st c h_ hst0 hc
      have hc3 : c ≤ 3 := by rw [hc]; exact maxF_le (fun _ _ => maxF_le (fun _ _ => levIn_le))
      refine wa_iload dX0_level_5 0 rfl ?_
      refine wa_aload_n dX0_level_7 rfl 2 rfl ?_
      refine wa_getr gX0_level_8 (rfl) rfl ?_
      refine wa_cVi (m_streets w h hW) vX4_streets iX0_level_11 (rfl) rfl rfl rfl (Nat.le_of_ble_eq_true rfl) ⟨by decide, by decide⟩ ?_
      refine wa_icmp_geN (a := st) (b := w + h) 53 dX0_level_14 (by decide) (by omega) (by omega) (fun c_14 => ?_) (fun c_14 => ?_)
      · refine wa_iload_n dX0_level_53 rfl 1 rfl ?_
        exact wa_iret dX0_level_54 rfl ⟨congrArg (fun z => some (Value.int z)) (by rw [hc]; unfold levB; rw [show st = w + h by omega]), rfl⟩
      · refine wa_iconst (0) dX0_level_17 (by decide) ?_
        refine wa_istore [(5, .int (0)), (4, .int (nI (st))), (3, .int (nI (c))), (0, wm_r G (28)), (1, .int (nI (l))), (2, .int (nI (s)))] dX0_level_18 (by decide) rfl ?_
        have L_20 : ∀ (n_ : Nat) (e c2 : Nat), (2 - e) < n_ → (e ≤ 2) → (c2 = max c (maxF (fun e => levIn w h (M.1 18) (M.1 19) (M.1 20) (M.1 21) (M.1 (31 + l)) z s st e) e)) → WA G t_X0_level (fun v_ N_ => v_ = some (.int (nI (levB w h (M.1 18) (M.1 19) (M.1 20) (M.1 21) (M.1 (31 + l)) z s))) ∧ N_ = M) 20 [(5, .int (nI (e))), (4, .int (nI (st))), (3, .int (nI (c2))), (0, wm_r G (28)), (1, .int (nI (l))), (2, .int (nI (s)))] [] (M) := by
          intro n_
          induction n_ with
          | zero => intro e c2 h_; exact absurd h_ (Nat.not_lt_zero _)
          | succ n_ ih_20 =>
            intro e c2 h_ he hc2
            have hc4 : c2 ≤ 3 := by rw [hc2]; exact Nat.max_le.mpr ⟨hc3, maxF_le (fun _ _ => levIn_le)⟩
            refine wa_iload dX0_level_20 0 rfl ?_
            refine wa_iconst (2) dX0_level_22 (by decide) ?_
            refine wa_icmp_geN (a := e) (b := 2) 47 dX0_level_23 (by decide) (by omega) (by omega) (fun c_23 => ?_) (fun c_23 => ?_)
            · refine wa_iinc ((nI (st + 1))) [(4, .int (nI (st + 1))), (5, .int (nI (e))), (3, .int (nI (c2))), (0, wm_r G (28)), (1, .int (nI (l))), (2, .int (nI (s)))] dX0_level_47 1 rfl (nI_inc _) (by decide) rfl ?_
              refine wa_goto 5 dX0_level_50 (by decide) ?_
              refine wa_sub [0, 2, 3, 4, 5] rfl ?_
              exact ih_5 (st + 1) _ (by omega) (by omega) (by rw [hc2, hc, show e = 2 by omega]; rfl)
            · have hl9 : levIn w h (M.1 18) (M.1 19) (M.1 20) (M.1 21) (M.1 (31 + l)) z s st e ≤ 3 := levIn_le
              have hst : st < w + h := c_14
              have he2 : e < 2 := c_23
              refine wa_iload_n dX0_level_26 rfl 2 rfl ?_
              refine wa_aload_n dX0_level_27 rfl 3 rfl ?_
              refine wa_iload_n dX0_level_28 rfl 4 rfl ?_
              refine wa_iload_n dX0_level_29 rfl 5 rfl ?_
              refine wa_iload dX0_level_30 1 rfl ?_
              refine wa_iload dX0_level_32 0 rfl ?_
              refine wa_cVi (m_levelIn w h hW l z hL s st e hs hst he2) vX0_levelIn iX0_level_34 (rfl) rfl rfl rfl (Nat.le_of_ble_eq_true rfl) ⟨by decide, by decide⟩ ?_
              refine wa_max iX0_level_37 ⟨by decide, Nat.le_of_ble_eq_true rfl⟩ ?_
              refine wa_eqi (y := (nI (max c2 (levIn w h (M.1 18) (M.1 19) (M.1 20) (M.1 21) (M.1 (31 + l)) z s st e)))) (nI_max (by omega) (by omega)) ?_
              refine wa_istore_n [(3, .int (nI (max c2 (levIn w h (M.1 18) (M.1 19) (M.1 20) (M.1 21) (M.1 (31 + l)) z s st e)))), (5, .int (nI (e))), (4, .int (nI (st))), (0, wm_r G (28)), (1, .int (nI (l))), (2, .int (nI (s)))] dX0_level_40 rfl (by decide) rfl ?_
              refine wa_iinc ((nI (e + 1))) [(5, .int (nI (e + 1))), (3, .int (nI (max c2 (levIn w h (M.1 18) (M.1 19) (M.1 20) (M.1 21) (M.1 (31 + l)) z s st e)))), (4, .int (nI (st))), (0, wm_r G (28)), (1, .int (nI (l))), (2, .int (nI (s)))] dX0_level_41 1 rfl (nI_inc _) (by decide) rfl ?_
              refine wa_goto 20 dX0_level_44 (by decide) ?_
              refine wa_sub [0, 2, 1, 3, 4, 5] rfl ?_
              exact ih_20 (e + 1) _ (by omega) (by omega) (by rw [hc2]; simp only [maxF]; rw [Nat.max_assoc])
        exact L_20 _ 0 _ (Nat.lt_succ_self _) (Nat.zero_le _) (by simp [maxF])
  exact L_5 _ 0 0 (Nat.lt_succ_self _) (Nat.zero_le _) rfl

theorem m_readings {G : wm_G} {M : wm_M} (w h : Nat) (hW : TW M w h) (l z : Nat) (hL : LZ M l z) (s : Nat) (hs : s < 4096) : MD G t_X0_readings [wm_r G (28), .int (nI (l)), .int (nI (s))] (M) (some (.int (nI (levN w h (M.1 18) (M.1 19) (M.1 20) (M.1 21) (M.1 (31 + l)) z s)))) (M) := by
  obtain ⟨hl4, hz, hz1, hz3⟩ := id hL
  have hn6 := TW_n hW
  obtain ⟨hw, hh, hw3, hh2⟩ := id hW
  refine wm_met (by decide) (Nat.le_of_ble_eq_true rfl) ?_
  show WA G t_X0_readings (fun v_ N_ => v_ = some (.int (nI (levN w h (M.1 18) (M.1 19) (M.1 20) (M.1 21) (M.1 (31 + l)) z s))) ∧ N_ = M) 0 [(0, wm_r G (28)), (1, .int (nI (l))), (2, .int (nI (s)))] [] (M)
  refine wa_iconst (0) dX0_readings_0 (by decide) ?_
  refine wa_istore_n [(3, .int (0)), (0, wm_r G (28)), (1, .int (nI (l))), (2, .int (nI (s)))] dX0_readings_1 rfl (by decide) rfl ?_
  refine wa_iconst (0) dX0_readings_2 (by decide) ?_
  refine wa_istore [(4, .int (0)), (3, .int (0)), (0, wm_r G (28)), (1, .int (nI (l))), (2, .int (nI (s)))] dX0_readings_3 (by decide) rfl ?_
  have L_5 : ∀ (n_ : Nat) (st c : Nat), (w + h - st) < n_ → (st ≤ w + h) → (c = wSum (fun st => wCnt (fun e => decide (2 ≤ levIn w h (M.1 18) (M.1 19) (M.1 20) (M.1 21) (M.1 (31 + l)) z s st e)) 2) st) → WA G t_X0_readings (fun v_ N_ => v_ = some (.int (nI (levN w h (M.1 18) (M.1 19) (M.1 20) (M.1 21) (M.1 (31 + l)) z s))) ∧ N_ = M) 5 [(4, .int (nI (st))), (3, .int (nI (c))), (0, wm_r G (28)), (1, .int (nI (l))), (2, .int (nI (s)))] [] (M) := by
    intro n_
    induction n_ with
    | zero => intro st c h_; exact absurd h_ (Nat.not_lt_zero _)
    | succ n_ ih_5 =>
      intro st c h_ hst0 hc
      refine wa_iload dX0_readings_5 0 rfl ?_
      refine wa_aload_n dX0_readings_7 rfl 2 rfl ?_
      refine wa_getr gX0_readings_8 (rfl) rfl ?_
      refine wa_cVi (m_streets w h hW) vX4_streets iX0_readings_11 (rfl) rfl rfl rfl (Nat.le_of_ble_eq_true rfl) ⟨by decide, by decide⟩ ?_
      refine wa_icmp_geN (a := st) (b := w + h) 55 dX0_readings_14 (by decide) (by omega) (by omega) (fun c_14 => ?_) (fun c_14 => ?_)
      · refine wa_iload_n dX0_readings_55 rfl 1 rfl ?_
        exact wa_iret dX0_readings_56 rfl ⟨congrArg (fun z => some (Value.int z)) (by rw [hc]; unfold levN; rw [show st = w + h by omega]), rfl⟩
      · refine wa_iconst (0) dX0_readings_17 (by decide) ?_
        refine wa_istore [(5, .int (0)), (4, .int (nI (st))), (3, .int (nI (c))), (0, wm_r G (28)), (1, .int (nI (l))), (2, .int (nI (s)))] dX0_readings_18 (by decide) rfl ?_
        have L_20 : ∀ (n_ : Nat) (e c2 : Nat), (2 - e) < n_ → (e ≤ 2) → (c2 = c + wCnt (fun e => decide (2 ≤ levIn w h (M.1 18) (M.1 19) (M.1 20) (M.1 21) (M.1 (31 + l)) z s st e)) e) → WA G t_X0_readings (fun v_ N_ => v_ = some (.int (nI (levN w h (M.1 18) (M.1 19) (M.1 20) (M.1 21) (M.1 (31 + l)) z s))) ∧ N_ = M) 20 [(5, .int (nI (e))), (4, .int (nI (st))), (3, .int (nI (c2))), (0, wm_r G (28)), (1, .int (nI (l))), (2, .int (nI (s)))] [] (M) := by
          intro n_
          induction n_ with
          | zero => intro e c2 h_; exact absurd h_ (Nat.not_lt_zero _)
          | succ n_ ih_20 =>
            intro e c2 h_ he hc2
            refine wa_iload dX0_readings_20 0 rfl ?_
            refine wa_iconst (2) dX0_readings_22 (by decide) ?_
            refine wa_icmp_geN (a := e) (b := 2) 49 dX0_readings_23 (by decide) (by omega) (by omega) (fun c_23 => ?_) (fun c_23 => ?_)
            · refine wa_iinc ((nI (st + 1))) [(4, .int (nI (st + 1))), (5, .int (nI (e))), (3, .int (nI (c2))), (0, wm_r G (28)), (1, .int (nI (l))), (2, .int (nI (s)))] dX0_readings_49 1 rfl (nI_inc _) (by decide) rfl ?_
              refine wa_goto 5 dX0_readings_52 (by decide) ?_
              refine wa_sub [0, 2, 3, 4, 5] rfl ?_
              exact ih_5 (st + 1) _ (by omega) (by omega) (by rw [hc2, hc, show e = 2 by omega]; rfl)
            · have hl9 : levIn w h (M.1 18) (M.1 19) (M.1 20) (M.1 21) (M.1 (31 + l)) z s st e ≤ 3 := levIn_le
              refine wa_aload_n dX0_readings_26 rfl 3 rfl ?_
              refine wa_iload_n dX0_readings_27 rfl 4 rfl ?_
              refine wa_iload_n dX0_readings_28 rfl 5 rfl ?_
              refine wa_iload dX0_readings_29 1 rfl ?_
              refine wa_iload dX0_readings_31 0 rfl ?_
              refine wa_cVi (m_levelIn w h hW l z hL s st e hs c_14 c_23) vX0_levelIn iX0_readings_33 (rfl) rfl rfl rfl (Nat.le_of_ble_eq_true rfl) ⟨by decide, by decide⟩ ?_
              refine wa_iconst (2) dX0_readings_36 (by decide) ?_
              refine wa_icmp_ltN (a := levIn w h (M.1 18) (M.1 19) (M.1 20) (M.1 21) (M.1 (31 + l)) z s st e) (b := 2) 43 dX0_readings_37 (by decide) (by omega) (by omega) (fun c_37 => ?_) (fun c_37 => ?_)
              · refine wa_iinc ((nI (e + 1))) [(5, .int (nI (e + 1))), (4, .int (nI (st))), (3, .int (nI (c2))), (0, wm_r G (28)), (1, .int (nI (l))), (2, .int (nI (s)))] dX0_readings_43 0 rfl (nI_inc _) (by decide) rfl ?_
                refine wa_goto 20 dX0_readings_46 (by decide) ?_
                exact ih_20 (e + 1) _ (by omega) (by omega) (by simp only [wCnt, hc2]; first | (rw [if_pos (by simpa using c_37)]; omega) | (rw [if_neg (by simpa using c_37)]; omega))
              · refine wa_iinc ((nI (c2 + 1))) [(3, .int (nI (c2 + 1))), (5, .int (nI (e))), (4, .int (nI (st))), (0, wm_r G (28)), (1, .int (nI (l))), (2, .int (nI (s)))] dX0_readings_40 2 rfl (nI_inc _) (by decide) rfl ?_
                refine wa_iinc ((nI (e + 1))) [(5, .int (nI (e + 1))), (3, .int (nI (c2 + 1))), (4, .int (nI (st))), (0, wm_r G (28)), (1, .int (nI (l))), (2, .int (nI (s)))] dX0_readings_43 1 rfl (nI_inc _) (by decide) rfl ?_
                refine wa_goto 20 dX0_readings_46 (by decide) ?_
                refine wa_sub [0, 2, 1, 3, 4, 5] rfl ?_
                exact ih_20 (e + 1) _ (by omega) (by omega) (by simp only [wCnt, hc2]; first | (rw [if_pos (by simpa using c_37)]; omega) | (rw [if_neg (by simpa using c_37)]; omega))
        exact L_20 _ 0 _ (Nat.lt_succ_self _) (Nat.zero_le _) rfl
  exact L_5 _ 0 0 (Nat.lt_succ_self _) (Nat.zero_le _) rfl
