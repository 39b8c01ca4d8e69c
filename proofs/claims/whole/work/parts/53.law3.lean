theorem m_standingIn {G : wm_G} {M : wm_M} (s : Nat) (hs : s < 4096) : MD G t_X0_standingIn [wm_r G (28), .int (nI (s))] (M) (some (.int (nI (wBits (fun l => sb (M.2.1 (38 + 2 * l + 1)) s) 4)))) (M) := by
  refine wm_met (by decide) (Nat.le_of_ble_eq_true rfl) ?_
  show WA G t_X0_standingIn (fun v_ N_ => v_ = some (.int (nI (wBits (fun l => sb (M.2.1 (38 + 2 * l + 1)) s) 4))) ∧ N_ = M) 0 [(0, wm_r G (28)), (1, .int (nI (s)))] [] (M)
  refine wa_iconst (0) dX0_standingIn_0 (by decide) ?_
  refine wa_istore_n [(2, .int (0)), (0, wm_r G (28)), (1, .int (nI (s)))] dX0_standingIn_1 rfl (by decide) rfl ?_
  refine wa_iconst (0) dX0_standingIn_2 (by decide) ?_
  refine wa_istore_n [(3, .int (0)), (2, .int (0)), (0, wm_r G (28)), (1, .int (nI (s)))] dX0_standingIn_3 rfl (by decide) rfl ?_
  have L_4 : ∀ (n_ : Nat) (l c : Nat), (4 - l) < n_ → (l ≤ 4) → (c = wBits (fun l => sb (M.2.1 (38 + 2 * l + 1)) s) l) → WA G t_X0_standingIn (fun v_ N_ => v_ = some (.int (nI (wBits (fun l => sb (M.2.1 (38 + 2 * l + 1)) s) 4))) ∧ N_ = M) 4 [(3, .int (nI (l))), (2, .int (nI (c))), (0, wm_r G (28)), (1, .int (nI (s)))] [] (M) := by
    intro n_
    induction n_ with
    | zero => intro l c h_; exact absurd h_ (Nat.not_lt_zero _)
    | succ n_ ih_4 =>
      intro l c h_ hl hc
      refine wa_iload_n dX0_standingIn_4 rfl 0 rfl ?_
      refine wa_iconst (4) dX0_standingIn_5 (by decide) ?_
      refine wa_icmp_geN (a := l) (b := 4) 34 dX0_standingIn_6 (by decide) (by omega) (by omega) (fun c_6 => ?_) (fun c_6 => ?_)
      · refine wa_iload_n dX0_standingIn_34 rfl 1 rfl ?_
        exact wa_iret dX0_standingIn_35 rfl ⟨congrArg (fun z => some (Value.int z)) (by rw [hc, show l = 4 by omega]), rfl⟩
      · refine wa_aload_n dX0_standingIn_9 rfl 2 rfl ?_
        refine wa_getr gX0_standingIn_10 (rfl) rfl ?_
        refine wa_iload_n dX0_standingIn_13 rfl 0 rfl ?_
        refine wa_aaldN (e := l) (Or.inr rfl) dX0_standingIn_14 (rfl) (by omega) (by decide) ?_
        refine wa_iload_n dX0_standingIn_15 rfl 3 rfl ?_
        refine wa_cVi (m_shas (38 + 2 * l) (SSl l c_6) s hs) vX3_has iX0_standingIn_16 ((SSl l c_6).1) rfl rfl rfl (Nat.le_of_ble_eq_true rfl) ⟨by decide, by decide⟩ ?_
        refine wa_if_eqB 28 dX0_standingIn_19 (by decide) (fun (c_19 : (sb (M.2.1 (38 + 2 * l + 1)) s) = false) => ?_) (fun (c_19 : (sb (M.2.1 (38 + 2 * l + 1)) s) = true) => ?_)
        · refine wa_iinc ((nI (l + 1))) [(3, .int (nI (l + 1))), (2, .int (nI (c))), (0, wm_r G (28)), (1, .int (nI (s)))] dX0_standingIn_28 0 rfl (nI_inc _) (by decide) rfl ?_
          refine wa_goto 4 dX0_standingIn_31 (by decide) ?_
          exact ih_4 (l + 1) _ (by omega) (by omega) (by simp [wBits, c_19, hc])
        · refine wa_iload_n dX0_standingIn_22 rfl 1 rfl ?_
          refine wa_iconst (1) dX0_standingIn_23 (by decide) ?_
          refine wa_iload_n dX0_standingIn_24 rfl 0 rfl ?_
          refine wa_ishl dX0_standingIn_25 ?_
          refine wa_ior dX0_standingIn_26 ?_
          refine wa_eqi (y := (nI (c + 2 ^ l))) (nI_orp (by rw [hc]; exact wBits_lt _ _) (by omega)) ?_
          refine wa_istore_n [(2, .int (nI (c + 2 ^ l))), (3, .int (nI (l))), (0, wm_r G (28)), (1, .int (nI (s)))] dX0_standingIn_27 rfl (by decide) rfl ?_
          refine wa_iinc ((nI (l + 1))) [(3, .int (nI (l + 1))), (2, .int (nI (c + 2 ^ l))), (0, wm_r G (28)), (1, .int (nI (s)))] dX0_standingIn_28 1 rfl (nI_inc _) (by decide) rfl ?_
          refine wa_goto 4 dX0_standingIn_31 (by decide) ?_
          exact ih_4 (l + 1) _ (by omega) (by omega) (by simp [wBits, c_19, hc])
  exact L_4 _ 0 0 (Nat.lt_succ_self _) (by omega) rfl

theorem m_turnsAt {G : wm_G} {M : wm_M} (w h : Nat) (hW : TW M w h) (l z : Nat) (hL : LZ M l z) (s st e : Nat) (hs : s < 4096) (hst : st < w + h) (he : e < 2) (start : Nat) (hstart : start + z ≤ sLen w h st) : MD G t_X0_turnsAt [wm_r G (28), .int (nI (l)), .int (nI (s)), .int (nI (st)), .int (nI (e)), .int (nI (start))] (M) (some (.int (tAt w h (M.1 18) (M.1 19) (M.1 (31 + l)) z s st e start))) (M) := by
  obtain ⟨hl4, hz, hz1, hz3⟩ := id hL
  have hn6 := TW_n hW
  obtain ⟨hw, hh, hw3, hh2⟩ := id hW
  have hlen : sLen w h st ≤ 3 := by unfold sLen; split <;> omega
  refine wm_met (by decide) (Nat.le_of_ble_eq_true rfl) ?_
  show WA G t_X0_turnsAt (fun v_ N_ => v_ = some (.int (tAt w h (M.1 18) (M.1 19) (M.1 (31 + l)) z s st e start)) ∧ N_ = M) 0 [(0, wm_r G (28)), (1, .int (nI (l))), (2, .int (nI (s))), (3, .int (nI (st))), (4, .int (nI (e))), (5, .int (nI (start)))] [] (M)
  refine wa_iconst (0) dX0_turnsAt_0 (by decide) ?_
  refine wa_istore [(6, .int (0)), (0, wm_r G (28)), (1, .int (nI (l))), (2, .int (nI (s))), (3, .int (nI (st))), (4, .int (nI (e))), (5, .int (nI (start)))] dX0_turnsAt_1 (by decide) rfl ?_
  refine wa_iconst (0) dX0_turnsAt_3 (by decide) ?_
  refine wa_istore [(7, .int (0)), (6, .int (0)), (0, wm_r G (28)), (1, .int (nI (l))), (2, .int (nI (s))), (3, .int (nI (st))), (4, .int (nI (e))), (5, .int (nI (start)))] dX0_turnsAt_4 (by decide) rfl ?_
  have L_6 : ∀ (n_ : Nat) (i c : Nat), (z - i) < n_ → (i ≤ z) → (c = wSum (fun i => ((fun i => tTo (M.1 18) (M.1 19) (sAt w h st e (start + i)) (sSide h s (sAt w h st e (start + i)) st e) (M.1 (31 + l) i)) i).toNatClampNeg) i) → (∀ j, j < i → ¬ (fun i => tTo (M.1 18) (M.1 19) (sAt w h st e (start + i)) (sSide h s (sAt w h st e (start + i)) st e) (M.1 (31 + l) i)) j = -9) → WA G t_X0_turnsAt (fun v_ N_ => v_ = some (.int (tAt w h (M.1 18) (M.1 19) (M.1 (31 + l)) z s st e start)) ∧ N_ = M) 6 [(7, .int (nI (i))), (6, .int (nI (c))), (0, wm_r G (28)), (1, .int (nI (l))), (2, .int (nI (s))), (3, .int (nI (st))), (4, .int (nI (e))), (5, .int (nI (start)))] [] (M) := by
    intro n_
    induction n_ with
    | zero => intro i c h_; exact absurd h_ (Nat.not_lt_zero _)
    | succ n_ ih_6 =>
      intro i c h_ hi hc hn
      refine wa_iload dX0_turnsAt_6 0 rfl ?_
      refine wa_aload_n dX0_turnsAt_8 rfl 2 rfl ?_
      refine wa_getr gX0_turnsAt_9 (rfl) rfl ?_
      refine wa_iload_n dX0_turnsAt_12 rfl 3 rfl ?_
      refine wa_cVi (m_sizeN 29 4 3 TB_laws l hl4) vX5_size iX0_turnsAt_13 (rfl) rfl rfl rfl (Nat.le_of_ble_eq_true rfl) ⟨by decide, by decide⟩ ?_
      refine wa_eqi (y := (nI (z))) (by rw [show M.1 (29 + 2 + 4) l = nI z from hz, nI_clamp (by omega)]) ?_
      refine wa_icmp_geN (a := i) (b := z) 93 dX0_turnsAt_16 (by decide) (by omega) (by omega) (fun c_16 => ?_) (fun c_16 => ?_)
      · refine wa_iload dX0_turnsAt_93 1 rfl ?_
        exact wa_iret dX0_turnsAt_95 rfl ⟨congrArg (fun z => some (Value.int z)) (by rw [hc, show i = z by omega]; unfold tAt tSum; rw [if_pos (wAll_t (fun j hj => by simpa using hn j (by omega)))]), rfl⟩
      · have hk := sAt_lt (e := e) hst (show start + i < sLen w h st by omega)
        refine wa_aload_n dX0_turnsAt_19 rfl 2 rfl ?_
        refine wa_getr gX0_turnsAt_20 (rfl) rfl ?_
        refine wa_iload_n dX0_turnsAt_23 rfl 5 rfl ?_
        refine wa_iload dX0_turnsAt_24 6 rfl ?_
        refine wa_iload dX0_turnsAt_26 7 rfl ?_
        refine wa_iload dX0_turnsAt_28 0 rfl ?_
        refine wa_iaddN (a := start) (b := i) dX0_turnsAt_30 ?_
        refine wa_cVi (m_stoneAt w h hW st e (start + i) (by omega) he (by omega)) vX4_stoneAt iX0_turnsAt_31 (rfl) rfl rfl rfl (Nat.le_of_ble_eq_true rfl) ⟨by decide, by decide⟩ ?_
        refine wa_istore [(8, .int (nI (sAt w h st e (start + i)))), (7, .int (nI (i))), (6, .int (nI (c))), (0, wm_r G (28)), (1, .int (nI (l))), (2, .int (nI (s))), (3, .int (nI (st))), (4, .int (nI (e))), (5, .int (nI (start)))] dX0_turnsAt_34 (by decide) rfl ?_
        refine wa_aload_n dX0_turnsAt_36 rfl 3 rfl ?_
        refine wa_getr gX0_turnsAt_37 (rfl) rfl ?_
        refine wa_iload dX0_turnsAt_40 0 rfl ?_
        refine wa_aload_n dX0_turnsAt_42 rfl 3 rfl ?_
        refine wa_getr gX0_turnsAt_43 (rfl) rfl ?_
        refine wa_iload_n dX0_turnsAt_46 rfl 5 rfl ?_
        refine wa_iload dX0_turnsAt_47 0 rfl ?_
        refine wa_iload_n dX0_turnsAt_49 rfl 6 rfl ?_
        refine wa_iload dX0_turnsAt_50 7 rfl ?_
        refine wa_cVi (m_sideRead w h hW s (sAt w h st e (start + i)) st e hs (by omega) (by omega) he) vX4_sideRead iX0_turnsAt_52 (rfl) rfl rfl rfl (Nat.le_of_ble_eq_true rfl) ⟨by decide, by decide⟩ ?_
        refine wa_aload_n dX0_turnsAt_55 rfl 3 rfl ?_
        refine wa_getr gX0_turnsAt_56 (rfl) rfl ?_
        refine wa_iload_n dX0_turnsAt_59 rfl 4 rfl ?_
        refine wa_iload dX0_turnsAt_60 1 rfl ?_
        refine wa_cVi (m_getN 29 4 3 TB_laws l (i) z hl4 (by omega) hz hz3) vX5_get iX0_turnsAt_62 (rfl) rfl rfl rfl (Nat.le_of_ble_eq_true rfl) ⟨by decide, by decide⟩ ?_
        refine wa_eqi (y := (M.1 (31 + l) i)) (by rw [if_pos (by omega)]) ?_
        refine wa_cVi (m_turnsTo (sAt w h st e (start + i)) (sSide h s (sAt w h st e (start + i)) st e) (M.1 (31 + l) i) (by omega) (Nat.mod_lt _ (by decide))) vX4_turnsTo iX0_turnsAt_65 (rfl) rfl rfl rfl (Nat.le_of_ble_eq_true rfl) ⟨by decide, by decide⟩ ?_
        refine wa_istore [(9, .int ((fun i => tTo (M.1 18) (M.1 19) (sAt w h st e (start + i)) (sSide h s (sAt w h st e (start + i)) st e) (M.1 (31 + l) i)) i)), (8, .int (nI (sAt w h st e (start + i)))), (7, .int (nI (i))), (6, .int (nI (c))), (0, wm_r G (28)), (1, .int (nI (l))), (2, .int (nI (s))), (3, .int (nI (st))), (4, .int (nI (e))), (5, .int (nI (start)))] dX0_turnsAt_68 (by decide) rfl ?_
        refine wa_iload dX0_turnsAt_70 0 rfl ?_
        refine wa_bipush (-9) dX0_turnsAt_72 (by decide) ?_
        refine wa_icmp_ne 80 dX0_turnsAt_74 (by decide) (fun c_74 => ?_) (fun c_74 => ?_)
        · obtain ⟨tt, htt, ett⟩ := (tTo_cases (M.1 18) (M.1 19) (sAt w h st e (start + i)) (sSide h s (sAt w h st e (start + i)) st e) (M.1 (31 + l) i)).resolve_left c_74
          refine wa_iload dX0_turnsAt_80 3 rfl ?_
          refine wa_iload dX0_turnsAt_82 0 rfl ?_
          refine wa_eqi (y := (nI (tt))) (ett) ?_
          refine wa_iaddN (a := c) (b := tt) dX0_turnsAt_84 ?_
          refine wa_istore [(6, .int (nI (c + tt))), (9, .int ((fun i => tTo (M.1 18) (M.1 19) (sAt w h st e (start + i)) (sSide h s (sAt w h st e (start + i)) st e) (M.1 (31 + l) i)) i)), (8, .int (nI (sAt w h st e (start + i)))), (7, .int (nI (i))), (0, wm_r G (28)), (1, .int (nI (l))), (2, .int (nI (s))), (3, .int (nI (st))), (4, .int (nI (e))), (5, .int (nI (start)))] dX0_turnsAt_85 (by decide) rfl ?_
          refine wa_iinc ((nI (i + 1))) [(7, .int (nI (i + 1))), (6, .int (nI (c + tt))), (9, .int ((fun i => tTo (M.1 18) (M.1 19) (sAt w h st e (start + i)) (sSide h s (sAt w h st e (start + i)) st e) (M.1 (31 + l) i)) i)), (8, .int (nI (sAt w h st e (start + i)))), (0, wm_r G (28)), (1, .int (nI (l))), (2, .int (nI (s))), (3, .int (nI (st))), (4, .int (nI (e))), (5, .int (nI (start)))] dX0_turnsAt_87 3 rfl (nI_inc _) (by decide) rfl ?_
          refine wa_goto 6 dX0_turnsAt_90 (by decide) ?_
          refine wa_sub [0, 1, 4, 5, 6, 7, 8, 9] rfl ?_
          exact ih_6 (i + 1) _ (by omega) (by omega) (by simp only [wSum]; rw [← hc, ett, nI_clamp (by omega)]) (fun j hj => by rcases Nat.lt_or_eq_of_le (Nat.le_of_lt_succ hj) with q | q; exact hn j q; subst q; exact c_74)
        · refine wa_bipush (-9) dX0_turnsAt_77 (by decide) ?_
          exact wa_iret dX0_turnsAt_79 rfl ⟨congrArg (fun z => some (Value.int z)) ((tSum_s c_16 c_74).symm), rfl⟩
  exact L_6 _ 0 0 (Nat.lt_succ_self _) (Nat.zero_le _) rfl (fun j hj => absurd hj (Nat.not_lt_zero _))

theorem m_bleastYears {G : wm_G} {M : wm_M} (w h : Nat) (hW : TW M w h) (l z : Nat) (hL : LZ M l z) (s : Nat) (hs : s < 4096) : MD G t_X0_leastYears [wm_r G (28), .int (nI (l)), .int (nI (s))] (M) (some (.int (lyT w h (M.1 18) (M.1 19) (M.1 (31 + l)) z s (w + h)))) (M) := by
  obtain ⟨hl4, hz, hz1, hz3⟩ := id hL
  have hn6 := TW_n hW
  obtain ⟨hw, hh, hw3, hh2⟩ := id hW
  refine wm_met (by decide) (Nat.le_of_ble_eq_true rfl) ?_
  show WA G t_X0_leastYears (fun v_ N_ => v_ = some (.int (lyT w h (M.1 18) (M.1 19) (M.1 (31 + l)) z s (w + h))) ∧ N_ = M) 0 [(0, wm_r G (28)), (1, .int (nI (l))), (2, .int (nI (s)))] [] (M)
  refine wa_bipush (-9) dX0_leastYears_0 (by decide) ?_
  refine wa_istore_n [(3, .int (-9)), (0, wm_r G (28)), (1, .int (nI (l))), (2, .int (nI (s)))] dX0_leastYears_2 rfl (by decide) rfl ?_
  refine wa_iconst (0) dX0_leastYears_3 (by decide) ?_
  refine wa_istore [(4, .int (0)), (3, .int (-9)), (0, wm_r G (28)), (1, .int (nI (l))), (2, .int (nI (s)))] dX0_leastYears_4 (by decide) rfl ?_
  have L_6 : ∀ (n_ : Nat) (st : Nat) (a : Int32), (w + h - st) < n_ → (st ≤ w + h) → (a = lyT w h (M.1 18) (M.1 19) (M.1 (31 + l)) z s st) → WA G t_X0_leastYears (fun v_ N_ => v_ = some (.int (lyT w h (M.1 18) (M.1 19) (M.1 (31 + l)) z s (w + h))) ∧ N_ = M) 6 [(4, .int (nI (st))), (3, .int (a)), (0, wm_r G (28)), (1, .int (nI (l))), (2, .int (nI (s)))] [] (M) := by
    intro n_
    induction n_ with
    | zero => intro st a h_; exact absurd h_ (Nat.not_lt_zero _)
    | succ n_ ih_6 =>
      intro st a h_ hst0 ha
      refine wa_iload dX0_leastYears_6 0 rfl ?_
      refine wa_aload_n dX0_leastYears_8 rfl 2 rfl ?_
      refine wa_getr gX0_leastYears_9 (rfl) rfl ?_
      refine wa_cVi (m_streets w h hW) vX4_streets iX0_leastYears_12 (rfl) rfl rfl rfl (Nat.le_of_ble_eq_true rfl) ⟨by decide, by decide⟩ ?_
      refine wa_icmp_geN (a := st) (b := w + h) 96 dX0_leastYears_15 (by decide) (by omega) (by omega) (fun c_15 => ?_) (fun c_15 => ?_)
      · refine wa_iload_n dX0_leastYears_96 rfl 1 rfl ?_
        exact wa_iret dX0_leastYears_97 rfl ⟨congrArg (fun z => some (Value.int z)) (by rw [ha, show st = w + h by omega]), rfl⟩
      · have hlen : sLen w h st ≤ 3 := by unfold sLen; split <;> omega
        refine wa_iconst (0) dX0_leastYears_18 (by decide) ?_
        refine wa_istore [(5, .int (0)), (4, .int (nI (st))), (3, .int (a)), (0, wm_r G (28)), (1, .int (nI (l))), (2, .int (nI (s)))] dX0_leastYears_19 (by decide) rfl ?_
        have L_21 : ∀ (n_ : Nat) (e : Nat) (a2 : Int32), (2 - e) < n_ → (e ≤ 2) → (a2 = lyE w h (M.1 18) (M.1 19) (M.1 (31 + l)) z s st (lyT w h (M.1 18) (M.1 19) (M.1 (31 + l)) z s st) e) → WA G t_X0_leastYears (fun v_ N_ => v_ = some (.int (lyT w h (M.1 18) (M.1 19) (M.1 (31 + l)) z s (w + h))) ∧ N_ = M) 21 [(5, .int (nI (e))), (4, .int (nI (st))), (3, .int (a2)), (0, wm_r G (28)), (1, .int (nI (l))), (2, .int (nI (s)))] [] (M) := by
          intro n_
          induction n_ with
          | zero => intro e a2 h_; exact absurd h_ (Nat.not_lt_zero _)
          | succ n_ ih_21 =>
            intro e a2 h_ he ha2
            refine wa_iload dX0_leastYears_21 0 rfl ?_
            refine wa_iconst (2) dX0_leastYears_23 (by decide) ?_
            refine wa_icmp_geN (a := e) (b := 2) 90 dX0_leastYears_24 (by decide) (by omega) (by omega) (fun c_24 => ?_) (fun c_24 => ?_)
            · refine wa_iinc ((nI (st + 1))) [(4, .int (nI (st + 1))), (5, .int (nI (e))), (3, .int (a2)), (0, wm_r G (28)), (1, .int (nI (l))), (2, .int (nI (s)))] dX0_leastYears_90 1 rfl (nI_inc _) (by decide) rfl ?_
              refine wa_goto 6 dX0_leastYears_93 (by decide) ?_
              refine wa_sub [0, 2, 3, 4, 5] rfl ?_
              exact ih_6 (st + 1) _ (by omega) (by omega) (by rw [ha2, show e = 2 by omega]; rfl)
            · refine wa_iconst (0) dX0_leastYears_27 (by decide) ?_
              refine wa_istore [(6, .int (0)), (5, .int (nI (e))), (4, .int (nI (st))), (3, .int (a2)), (0, wm_r G (28)), (1, .int (nI (l))), (2, .int (nI (s)))] dX0_leastYears_28 (by decide) rfl ?_
              have L_30 : ∀ (n_ : Nat) (b : Nat) (a3 : Int32), (sLen w h st + 1 - z - b) < n_ → (b ≤ sLen w h st + 1 - z) → (a3 = fmin (tAt w h (M.1 18) (M.1 19) (M.1 (31 + l)) z s st e) (lyE w h (M.1 18) (M.1 19) (M.1 (31 + l)) z s st (lyT w h (M.1 18) (M.1 19) (M.1 (31 + l)) z s st) e) b) → WA G t_X0_leastYears (fun v_ N_ => v_ = some (.int (lyT w h (M.1 18) (M.1 19) (M.1 (31 + l)) z s (w + h))) ∧ N_ = M) 30 [(6, .int (nI (b))), (5, .int (nI (e))), (4, .int (nI (st))), (3, .int (a3)), (0, wm_r G (28)), (1, .int (nI (l))), (2, .int (nI (s)))] [] (M) := by
                intro n_
                induction n_ with
                | zero => intro b a3 h_; exact absurd h_ (Nat.not_lt_zero _)
                | succ n_ ih_30 =>
                  intro b a3 h_ hb ha3
                  refine wa_iload dX0_leastYears_30 0 rfl ?_
                  refine wa_aload_n dX0_leastYears_32 rfl 4 rfl ?_
                  refine wa_iload_n dX0_leastYears_33 rfl 5 rfl ?_
                  refine wa_iload dX0_leastYears_34 2 rfl ?_
                  refine wa_cVi (m_lastStart w h hW l z hL st (by omega)) vX0_lastStart iX0_leastYears_36 (rfl) rfl rfl rfl (Nat.le_of_ble_eq_true rfl) ⟨by decide, by decide⟩ ?_
                  refine wa_icmp_gt 84 dX0_leastYears_39 (by decide) (fun c_39 => ?_) (fun c_39 => ?_)
                  · have hlt := (ls_iff (by omega) (by omega) (by omega)).mp c_39
                    refine wa_iinc ((nI (e + 1))) [(5, .int (nI (e + 1))), (6, .int (nI (b))), (4, .int (nI (st))), (3, .int (a3)), (0, wm_r G (28)), (1, .int (nI (l))), (2, .int (nI (s)))] dX0_leastYears_84 1 rfl (nI_inc _) (by decide) rfl ?_
                    refine wa_goto 21 dX0_leastYears_87 (by decide) ?_
                    refine wa_sub [0, 2, 3, 4, 5, 6] rfl ?_
                    exact ih_21 (e + 1) _ (by omega) (by omega) (by rw [ha3, show b = sLen w h st + 1 - z by omega]; rfl)
                  · have hlt : ¬ sLen w h st < b + z := fun q => c_39 ((ls_iff (by omega) (by omega) (by omega)).mpr q)
                    refine wa_aload_n dX0_leastYears_42 rfl 4 rfl ?_
                    refine wa_iload_n dX0_leastYears_43 rfl 5 rfl ?_
                    refine wa_iload_n dX0_leastYears_44 rfl 6 rfl ?_
                    refine wa_iload dX0_leastYears_45 2 rfl ?_
                    refine wa_iload dX0_leastYears_47 1 rfl ?_
                    refine wa_iload dX0_leastYears_49 0 rfl ?_
                    refine wa_cVi (m_turnsAt w h hW l z hL s st e hs c_15 c_24 b (by omega)) vX0_turnsAt iX0_leastYears_51 (rfl) rfl rfl rfl (Nat.le_of_ble_eq_true rfl) ⟨by decide, by decide⟩ ?_
                    refine wa_istore [(7, .int (tAt w h (M.1 18) (M.1 19) (M.1 (31 + l)) z s st e b)), (6, .int (nI (b))), (5, .int (nI (e))), (4, .int (nI (st))), (3, .int (a3)), (0, wm_r G (28)), (1, .int (nI (l))), (2, .int (nI (s)))] dX0_leastYears_54 (by decide) rfl ?_
                    refine wa_iload dX0_leastYears_56 0 rfl ?_
                    refine wa_bipush (-9) dX0_leastYears_58 (by decide) ?_
                    refine wa_icmp_eq 78 dX0_leastYears_60 (by decide) (fun c_60 => ?_) (fun c_60 => ?_)
                    · refine wa_iinc ((nI (b + 1))) [(6, .int (nI (b + 1))), (7, .int (tAt w h (M.1 18) (M.1 19) (M.1 (31 + l)) z s st e b)), (5, .int (nI (e))), (4, .int (nI (st))), (3, .int (a3)), (0, wm_r G (28)), (1, .int (nI (l))), (2, .int (nI (s)))] dX0_leastYears_78 1 rfl (nI_inc _) (by decide) rfl ?_
                      refine wa_goto 30 dX0_leastYears_81 (by decide) ?_
                      refine wa_sub [0, 2, 3, 4, 5, 6, 7] rfl ?_
                      exact ih_30 (b + 1) _ (by omega) (by omega) (by simp only [fmin, lmin]; rw [← ha3]; first | (rw [if_pos c_60]; done) | (rw [if_neg c_60, if_pos (Or.inl c_66)]; done) | (rw [if_neg c_60, if_neg (fun q => q.elim c_66 (fun q2 => absurd q2 (Int32.not_lt.mpr c_72)))]; done) | (rw [if_neg c_60, if_pos (Or.inr (Int32.not_le.mp c_72))]; done))
                    · refine wa_iload_n dX0_leastYears_63 rfl 4 rfl ?_
                      refine wa_bipush (-9) dX0_leastYears_64 (by decide) ?_
                      refine wa_icmp_eq 75 dX0_leastYears_66 (by decide) (fun c_66 => ?_) (fun c_66 => ?_)
                      · refine wa_iload dX0_leastYears_75 0 rfl ?_
                        refine wa_istore_n [(3, .int (tAt w h (M.1 18) (M.1 19) (M.1 (31 + l)) z s st e b)), (7, .int (tAt w h (M.1 18) (M.1 19) (M.1 (31 + l)) z s st e b)), (6, .int (nI (b))), (5, .int (nI (e))), (4, .int (nI (st))), (0, wm_r G (28)), (1, .int (nI (l))), (2, .int (nI (s)))] dX0_leastYears_77 rfl (by decide) rfl ?_
                        refine wa_iinc ((nI (b + 1))) [(6, .int (nI (b + 1))), (3, .int (tAt w h (M.1 18) (M.1 19) (M.1 (31 + l)) z s st e b)), (7, .int (tAt w h (M.1 18) (M.1 19) (M.1 (31 + l)) z s st e b)), (5, .int (nI (e))), (4, .int (nI (st))), (0, wm_r G (28)), (1, .int (nI (l))), (2, .int (nI (s)))] dX0_leastYears_78 2 rfl (nI_inc _) (by decide) rfl ?_
                        refine wa_goto 30 dX0_leastYears_81 (by decide) ?_
                        refine wa_sub [0, 3, 4, 1, 5, 6, 7] rfl ?_
                        exact ih_30 (b + 1) _ (by omega) (by omega) (by simp only [fmin, lmin]; rw [← ha3]; first | (rw [if_pos c_60]; done) | (rw [if_neg c_60, if_pos (Or.inl c_66)]; done) | (rw [if_neg c_60, if_neg (fun q => q.elim c_66 (fun q2 => absurd q2 (Int32.not_lt.mpr c_72)))]; done) | (rw [if_neg c_60, if_pos (Or.inr (Int32.not_le.mp c_72))]; done))
                      · refine wa_iload dX0_leastYears_69 0 rfl ?_
                        refine wa_iload_n dX0_leastYears_71 rfl 4 rfl ?_
                        refine wa_icmp_ge 78 dX0_leastYears_72 (by decide) (fun c_72 => ?_) (fun c_72 => ?_)
                        · refine wa_iinc ((nI (b + 1))) [(6, .int (nI (b + 1))), (7, .int (tAt w h (M.1 18) (M.1 19) (M.1 (31 + l)) z s st e b)), (5, .int (nI (e))), (4, .int (nI (st))), (3, .int (a3)), (0, wm_r G (28)), (1, .int (nI (l))), (2, .int (nI (s)))] dX0_leastYears_78 1 rfl (nI_inc _) (by decide) rfl ?_
                          refine wa_goto 30 dX0_leastYears_81 (by decide) ?_
                          refine wa_sub [0, 2, 3, 4, 5, 6, 7] rfl ?_
                          exact ih_30 (b + 1) _ (by omega) (by omega) (by simp only [fmin, lmin]; rw [← ha3]; first | (rw [if_pos c_60]; done) | (rw [if_neg c_60, if_pos (Or.inl c_66)]; done) | (rw [if_neg c_60, if_neg (fun q => q.elim c_66 (fun q2 => absurd q2 (Int32.not_lt.mpr c_72)))]; done) | (rw [if_neg c_60, if_pos (Or.inr (Int32.not_le.mp c_72))]; done))
                        · refine wa_iload dX0_leastYears_75 0 rfl ?_
                          refine wa_istore_n [(3, .int (tAt w h (M.1 18) (M.1 19) (M.1 (31 + l)) z s st e b)), (7, .int (tAt w h (M.1 18) (M.1 19) (M.1 (31 + l)) z s st e b)), (6, .int (nI (b))), (5, .int (nI (e))), (4, .int (nI (st))), (0, wm_r G (28)), (1, .int (nI (l))), (2, .int (nI (s)))] dX0_leastYears_77 rfl (by decide) rfl ?_
                          refine wa_iinc ((nI (b + 1))) [(6, .int (nI (b + 1))), (3, .int (tAt w h (M.1 18) (M.1 19) (M.1 (31 + l)) z s st e b)), (7, .int (tAt w h (M.1 18) (M.1 19) (M.1 (31 + l)) z s st e b)), (5, .int (nI (e))), (4, .int (nI (st))), (0, wm_r G (28)), (1, .int (nI (l))), (2, .int (nI (s)))] dX0_leastYears_78 2 rfl (nI_inc _) (by decide) rfl ?_
                          refine wa_goto 30 dX0_leastYears_81 (by decide) ?_
                          refine wa_sub [0, 3, 4, 1, 5, 6, 7] rfl ?_
                          exact ih_30 (b + 1) _ (by omega) (by omega) (by simp only [fmin, lmin]; rw [← ha3]; first | (rw [if_pos c_60]; done) | (rw [if_neg c_60, if_pos (Or.inl c_66)]; done) | (rw [if_neg c_60, if_neg (fun q => q.elim c_66 (fun q2 => absurd q2 (Int32.not_lt.mpr c_72)))]; done) | (rw [if_neg c_60, if_pos (Or.inr (Int32.not_le.mp c_72))]; done))
              exact L_30 _ 0 a2 (Nat.lt_succ_self _) (Nat.zero_le _) ha2
        exact L_21 _ 0 a (Nat.lt_succ_self _) (Nat.zero_le _) ha
  exact L_6 _ 0 (-9) (Nat.lt_succ_self _) (Nat.zero_le _) rfl

theorem m_hasWord {G : wm_G} {M : wm_M} (l z : Nat) (hL : LZ M l z) (word : Int32) : MD G t_X0_hasWord [wm_r G (28), .int (nI (l)), .int (word)] (M) (some (.int (wB (wAny (fun i => decide (M.1 (31 + l) i = word)) z)))) (M) := by
  obtain ⟨hl4, hz, hz1, hz3⟩ := id hL
  refine wm_met (by decide) (Nat.le_of_ble_eq_true rfl) ?_
  show WA G t_X0_hasWord (fun v_ N_ => v_ = some (.int (wB (wAny (fun i => decide (M.1 (31 + l) i = word)) z))) ∧ N_ = M) 0 [(0, wm_r G (28)), (1, .int (nI (l))), (2, .int (word))] [] (M)
  refine wa_iconst (0) dX0_hasWord_0 (by decide) ?_
  refine wa_istore_n [(3, .int (0)), (0, wm_r G (28)), (1, .int (nI (l))), (2, .int (word))] dX0_hasWord_1 rfl (by decide) rfl ?_
  have L_2 : ∀ (n_ : Nat) (i : Nat), (z - i) < n_ → (i ≤ z) → (wAny (fun i => decide (M.1 (31 + l) i = word)) i = false) → WA G t_X0_hasWord (fun v_ N_ => v_ = some (.int (wB (wAny (fun i => decide (M.1 (31 + l) i = word)) z))) ∧ N_ = M) 2 [(3, .int (nI (i))), (0, wm_r G (28)), (1, .int (nI (l))), (2, .int (word))] [] (M) := by
    intro n_
    induction n_ with
    | zero => intro i h_; exact absurd h_ (Nat.not_lt_zero _)
    | succ n_ ih_2 =>
      intro i h_ hi hn
      refine wa_iload_n dX0_hasWord_2 rfl 0 rfl ?_
      refine wa_aload_n dX0_hasWord_3 rfl 1 rfl ?_
      refine wa_getr gX0_hasWord_4 (rfl) rfl ?_
      refine wa_iload_n dX0_hasWord_7 rfl 2 rfl ?_
      refine wa_cVi (m_sizeN 29 4 3 TB_laws l hl4) vX5_size iX0_hasWord_8 (rfl) rfl rfl rfl (Nat.le_of_ble_eq_true rfl) ⟨by decide, by decide⟩ ?_
      refine wa_eqi (y := (nI (z))) (by rw [show M.1 (29 + 2 + 4) l = nI z from hz, nI_clamp (by omega)]) ?_
      refine wa_icmp_geN (a := i) (b := z) 35 dX0_hasWord_11 (by decide) (by omega) (by omega) (fun c_11 => ?_) (fun c_11 => ?_)
      · refine wa_iconst (0) dX0_hasWord_35 (by decide) ?_
        exact wa_zret dX0_hasWord_36 rfl (by decide) ⟨congrArg (fun z => some (Value.int z)) (by rw [show wAny (fun i => decide (M.1 (31 + l) i = word)) z = false from by rw [show z = i by omega]; exact hn]; rfl), rfl⟩
      · refine wa_aload_n dX0_hasWord_14 rfl 1 rfl ?_
        refine wa_getr gX0_hasWord_15 (rfl) rfl ?_
        refine wa_iload_n dX0_hasWord_18 rfl 2 rfl ?_
        refine wa_iload_n dX0_hasWord_19 rfl 0 rfl ?_
        refine wa_cVi (m_getN 29 4 3 TB_laws l (i) z hl4 (by omega) hz hz3) vX5_get iX0_hasWord_20 (rfl) rfl rfl rfl (Nat.le_of_ble_eq_true rfl) ⟨by decide, by decide⟩ ?_
        refine wa_eqi (y := (M.1 (31 + l) i)) (by rw [if_pos (by omega)]) ?_
        refine wa_iload_n dX0_hasWord_23 rfl 3 rfl ?_
        refine wa_icmp_ne 29 dX0_hasWord_24 (by decide) (fun c_24 => ?_) (fun c_24 => ?_)
        · refine wa_iinc ((nI (i + 1))) [(3, .int (nI (i + 1))), (0, wm_r G (28)), (1, .int (nI (l))), (2, .int (word))] dX0_hasWord_29 0 rfl (nI_inc _) (by decide) rfl ?_
          refine wa_goto 2 dX0_hasWord_32 (by decide) ?_
          exact ih_2 (i + 1) (by omega) (by omega) (by rw [wAny_s, hn]; simpa using c_24)
        · refine wa_iconst (1) dX0_hasWord_27 (by decide) ?_
          exact wa_zret dX0_hasWord_28 rfl (by decide) ⟨congrArg (fun z => some (Value.int z)) (by rw [wAny_iff.mpr ⟨i, c_11, by simpa using c_24⟩]; rfl), rfl⟩
  exact L_2 _ 0 (Nat.lt_succ_self _) (Nat.zero_le _) rfl
