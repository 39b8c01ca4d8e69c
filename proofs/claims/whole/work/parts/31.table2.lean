theorem m_takeN {G : wm_G} {M : wm_M} (t m len : Nat) (hT : TB t m len) (r f s : Nat) (hr : r < m) (hf : f < 6) (ht : 10 ≤ t) (hs : M.1 9 f = nI s) (hs60 : s ≤ 60) (hsl : s ≤ len) (hL : M.1 t 0 = nI len) : MD G t_X5_take [wm_r G (t), .int (nI (r)), wm_r G (1), .int (nI (f))] (M) (none) (wIa (wI M (t + 2 + m) r (nI s)) (t + 2 + r) (wTo (M.1 (3 + f)) (M.1 (t + 2 + r)) s)) := by
  obtain ⟨hm, hle⟩ := hT.2.2.2.2
  refine wm_met (by decide) (Nat.le_of_ble_eq_true rfl) ?_
  show WA G t_X5_take (fun v_ N_ => v_ = none ∧ N_ = wIa (wI M (t + 2 + m) r (nI s)) (t + 2 + r) (wTo (M.1 (3 + f)) (M.1 (t + 2 + r)) s)) 0 [(0, wm_r G (t)), (1, .int (nI (r))), (2, wm_r G (1)), (3, .int (nI (f)))] [] (M)
  refine wa_aload_n dX5_take_0 rfl 2 rfl ?_
  refine wa_iload_n dX5_take_1 rfl 3 rfl ?_
  refine wa_cVi (m_sizeN 1 6 60 TB_rows f hf) vX5_size iX5_take_2 (rfl) rfl rfl rfl (Nat.le_of_ble_eq_true rfl) ⟨by decide, by decide⟩ ?_
  refine wa_eqi (y := (nI (s))) (by rw [show M.1 (1 + 2 + 6) f = nI s from hs, nI_clamp (by omega)]) ?_
  refine wa_istore [(4, .int (nI (s))), (0, wm_r G (t)), (1, .int (nI (r))), (2, wm_r G (1)), (3, .int (nI (f)))] dX5_take_5 (by decide) rfl ?_
  refine wa_aload_n dX5_take_7 rfl 1 rfl ?_
  refine wa_iload_n dX5_take_8 rfl 2 rfl ?_
  refine wa_iload dX5_take_9 0 rfl ?_
  refine wa_iconst (0) dX5_take_11 (by decide) ?_
  refine wa_cVv (m_beginN t m len hT r s 0 hr hsl hL) vX5_begin iX5_take_12 (hT.1) rfl rfl rfl (Nat.le_of_ble_eq_true rfl) ⟨by decide, by decide⟩ ?_
  refine wa_iconst (0) dX5_take_15 (by decide) ?_
  refine wa_istore [(5, .int (0)), (4, .int (nI (s))), (0, wm_r G (t)), (1, .int (nI (r))), (2, wm_r G (1)), (3, .int (nI (f)))] dX5_take_16 (by decide) rfl ?_
  have L_18 : ∀ (n_ : Nat) (i : Nat), (s - i) < n_ → (i ≤ s) → WA G t_X5_take (fun v_ N_ => v_ = none ∧ N_ = wIa (wI M (t + 2 + m) r (nI s)) (t + 2 + r) (wTo (M.1 (3 + f)) (M.1 (t + 2 + r)) s)) 18 [(5, .int (nI (i))), (4, .int (nI (s))), (0, wm_r G (t)), (1, .int (nI (r))), (2, wm_r G (1)), (3, .int (nI (f)))] [] (wIa (wI M (t + 2 + m) r (nI s)) (t + 2 + r) (wTo (M.1 (3 + f)) (wFill (M.1 (t + 2 + r)) 0 s 0) i)) := by
    intro n_
    induction n_ with
    | zero => intro i h_; exact absurd h_ (Nat.not_lt_zero _)
    | succ n_ ih_18 =>
      intro i h_ hi
      refine wa_iload dX5_take_18 0 rfl ?_
      refine wa_iload dX5_take_20 1 rfl ?_
      refine wa_icmp_geN (a := i) (b := s) 45 dX5_take_22 (by decide) (by omega) (by omega) (fun c_22 => ?_) (fun c_22 => ?_)
      · exact wa_vret dX5_take_45 rfl ⟨rfl, by rw [show i = s by omega, wTo_fill]⟩
      · have h9 : (wIa (wI M (t + 2 + m) r (nI s)) (t + 2 + r) (wTo (M.1 (3 + f)) (wFill (M.1 (t + 2 + r)) 0 s 0) i)).1 (1 + 2 + 6) f = nI s := by rw [wIa_n (by omega), show (wI M (t + 2 + m) r (nI s)).1 (1 + 2 + 6) = M.1 9 from wIa_n (by omega)]; exact hs
        have h8 : (wIa (wI M (t + 2 + m) r (nI s)) (t + 2 + r) (wTo (M.1 (3 + f)) (wFill (M.1 (t + 2 + r)) 0 s 0) i)).1 (t + 2 + m) r = nI s := by rw [wIa_n (by omega)]; unfold wI; rw [wIa_s, upd_s]
        have h7 : (wIa (wI M (t + 2 + m) r (nI s)) (t + 2 + r) (wTo (M.1 (3 + f)) (wFill (M.1 (t + 2 + r)) 0 s 0) i)).1 (1 + 2 + f) = M.1 (3 + f) := by rw [wIa_n (by omega), show (wI M (t + 2 + m) r (nI s)).1 (1 + 2 + f) = M.1 (3 + f) from wIa_n (by omega)]
        refine wa_aload_n dX5_take_25 rfl 2 rfl ?_
        refine wa_iload_n dX5_take_26 rfl 3 rfl ?_
        refine wa_iload dX5_take_27 0 rfl ?_
        refine wa_aload_n dX5_take_29 rfl 4 rfl ?_
        refine wa_iload_n dX5_take_30 rfl 5 rfl ?_
        refine wa_iload dX5_take_31 0 rfl ?_
        refine wa_cVi (m_getN 1 6 60 TB_rows f i s hf (by omega) h9 hs60) vX5_get iX5_take_33 (rfl) rfl rfl rfl (Nat.le_of_ble_eq_true rfl) ⟨by decide, by decide⟩ ?_
        refine wa_eqi (y := (M.1 (3 + f) i)) (by rw [if_pos c_22, h7]) ?_
        refine wa_cVv (m_setN t m len hT r i s (M.1 (3 + f) i) hr c_22 h8 hsl) vX5_set iX5_take_36 (hT.1) rfl rfl rfl (Nat.le_of_ble_eq_true rfl) ⟨by decide, by decide⟩ ?_
        refine wa_eqm (M' := wIa (wI M (t + 2 + m) r (nI s)) (t + 2 + r) (wTo (M.1 (3 + f)) (wFill (M.1 (t + 2 + r)) 0 s 0) (i + 1))) (by rw [wI_wIa, wTo_s rfl]) ?_
        refine wa_iinc ((nI (i + 1))) [(5, .int (nI (i + 1))), (4, .int (nI (s))), (0, wm_r G (t)), (1, .int (nI (r))), (2, wm_r G (1)), (3, .int (nI (f)))] dX5_take_39 0 rfl (nI_inc _) (by decide) rfl ?_
        refine wa_goto 18 dX5_take_42 (by decide) ?_
        exact ih_18 (i + 1) (by omega) (by omega)
  refine wa_eqm (M' := wIa (wI M (t + 2 + m) r (nI s)) (t + 2 + r) (wTo (M.1 (3 + f)) (wFill (M.1 (t + 2 + r)) 0 s 0) 0)) (by rw [wTo_0]) ?_
  exact L_18 _ 0 (Nat.lt_succ_self _) (Nat.zero_le _)

theorem m_tnumber {G : wm_G} {M : wm_M} (t m len : Nat) (hT : TB t m len) : MD G t_X5_number [wm_r G (t)] (M) (some (.int (nI (wCnt (fun r => !decide (M.1 (t + 2 + m) r = -1)) m)))) (M) := by
  obtain ⟨hm, hle⟩ := hT.2.2.2.2
  refine wm_met (by decide) (Nat.le_of_ble_eq_true rfl) ?_
  show WA G t_X5_number (fun v_ N_ => v_ = some (.int (nI (wCnt (fun r => !decide (M.1 (t + 2 + m) r = -1)) m))) ∧ N_ = M) 0 [(0, wm_r G (t))] [] (M)
  refine wa_iconst (0) dX5_number_0 (by decide) ?_
  refine wa_istore_n [(1, .int (0)), (0, wm_r G (t))] dX5_number_1 rfl (by decide) rfl ?_
  refine wa_aload_n dX5_number_2 rfl 1 rfl ?_
  refine wa_getr gX5_number_3 (hT.1) rfl ?_
  refine wa_astore_n [(2, wm_r G (t + 2 + m)), (1, .int (0)), (0, wm_r G (t))] dX5_number_6 rfl (by decide) rfl ?_
  refine wa_aload_n dX5_number_7 rfl 0 rfl ?_
  refine wa_alen (nI (m)) dX5_number_8 (hT.2.2.2.1) (by decide) rfl ?_
  refine wa_istore_n [(3, .int (nI (m))), (2, wm_r G (t + 2 + m)), (1, .int (0)), (0, wm_r G (t))] dX5_number_9 rfl (by decide) rfl ?_
  refine wa_iconst (0) dX5_number_10 (by decide) ?_
  refine wa_istore [(4, .int (0)), (3, .int (nI (m))), (2, wm_r G (t + 2 + m)), (1, .int (0)), (0, wm_r G (t))] dX5_number_11 (by decide) rfl ?_
  have L_13 : ∀ (n_ : Nat) (i c : Nat), (m - i) < n_ → (i ≤ m) → (c = wCnt (fun r => !decide (M.1 (t + 2 + m) r = -1)) i) → WA G t_X5_number (fun v_ N_ => v_ = some (.int (nI (wCnt (fun r => !decide (M.1 (t + 2 + m) r = -1)) m))) ∧ N_ = M) 13 [(4, .int (nI (i))), (3, .int (nI (m))), (2, wm_r G (t + 2 + m)), (1, .int (nI (c))), (0, wm_r G (t))] [] (M) := by
    intro n_
    induction n_ with
    | zero => intro i c h_; exact absurd h_ (Nat.not_lt_zero _)
    | succ n_ ih_13 =>
      intro i c h_ hi hc
      refine wa_iload dX5_number_13 0 rfl ?_
      refine wa_iload_n dX5_number_15 rfl 1 rfl ?_
      refine wa_icmp_geN (a := i) (b := m) 40 dX5_number_16 (by decide) (by omega) (by omega) (fun c_16 => ?_) (fun c_16 => ?_)
      · refine wa_iload_n dX5_number_40 rfl 3 rfl ?_
        exact wa_iret dX5_number_41 rfl ⟨congrArg (fun z => some (Value.int z)) (by rw [hc, show i = m by omega]), rfl⟩
      · refine wa_aload_n dX5_number_19 rfl 2 rfl ?_
        refine wa_iload dX5_number_20 0 rfl ?_
        refine wa_ialdN (e := i) dX5_number_22 (hT.2.2.2.1) (by omega) (by omega) ?_
        refine wa_topi (fun sz e_sz => ?_)
        refine wa_istore [(5, .int (sz)), (4, .int (nI (i))), (3, .int (nI (m))), (2, wm_r G (t + 2 + m)), (1, .int (nI (c))), (0, wm_r G (t))] dX5_number_23 (by decide) rfl ?_
        refine wa_iload dX5_number_25 0 rfl ?_
        refine wa_iconst (-1) dX5_number_27 (by decide) ?_
        refine wa_icmp_eq 34 dX5_number_28 (by decide) (fun c_28 => ?_) (fun c_28 => ?_)
        · refine wa_iinc ((nI (i + 1))) [(4, .int (nI (i + 1))), (5, .int (sz)), (3, .int (nI (m))), (2, wm_r G (t + 2 + m)), (1, .int (nI (c))), (0, wm_r G (t))] dX5_number_34 1 rfl (nI_inc _) (by decide) rfl ?_
          refine wa_goto 13 dX5_number_37 (by decide) ?_
          refine wa_sub [0, 2, 3, 4, 5] rfl ?_
          exact ih_13 (i + 1) _ (by omega) (by omega) (by subst e_sz; simp [wCnt, hc, c_28])
        · refine wa_iinc ((nI (c + 1))) [(1, .int (nI (c + 1))), (5, .int (sz)), (4, .int (nI (i))), (3, .int (nI (m))), (2, wm_r G (t + 2 + m)), (0, wm_r G (t))] dX5_number_31 4 rfl (nI_inc _) (by decide) rfl ?_
          refine wa_iinc ((nI (i + 1))) [(4, .int (nI (i + 1))), (1, .int (nI (c + 1))), (5, .int (sz)), (3, .int (nI (m))), (2, wm_r G (t + 2 + m)), (0, wm_r G (t))] dX5_number_34 2 rfl (nI_inc _) (by decide) rfl ?_
          refine wa_goto 13 dX5_number_37 (by decide) ?_
          refine wa_sub [0, 3, 4, 1, 5] rfl ?_
          exact ih_13 (i + 1) _ (by omega) (by omega) (by subst e_sz; simp [wCnt, hc, c_28])
  exact L_13 _ 0 0 (Nat.lt_succ_self _) (by omega) rfl

theorem m_foldPlaces {G : wm_G} {M : wm_M} (t m len : Nat) (hT : TB t m len) (start : Int64) (r : Nat) (hr : r < m) (hs : (M.1 (t + 2 + m) r).toNatClampNeg ≤ len) : MD G t_X5_foldPlaces [wm_r G (t), .long (start), .int (nI (r))] (M) (some (.long (hFold start (fun j => (M.1 (t + 2 + r) j).toInt64) (M.1 (t + 2 + m) r).toNatClampNeg))) (M) := by
  obtain ⟨hm, hle⟩ := hT.2.2.2.2
  refine wm_met (by decide) (Nat.le_of_ble_eq_true rfl) ?_
  show WA G t_X5_foldPlaces (fun v_ N_ => v_ = some (.long (hFold start (fun j => (M.1 (t + 2 + r) j).toInt64) (M.1 (t + 2 + m) r).toNatClampNeg)) ∧ N_ = M) 0 [(0, wm_r G (t)), (1, .long (start)), (3, .int (nI (r)))] [] (M)
  refine wa_lload_n dX5_foldPlaces_0 rfl 1 rfl ?_
  refine wa_lstore [(4, .long (start)), (0, wm_r G (t)), (1, .long (start)), (3, .int (nI (r)))] dX5_foldPlaces_1 (by decide) rfl ?_
  refine wa_iconst (0) dX5_foldPlaces_3 (by decide) ?_
  refine wa_istore [(6, .int (0)), (4, .long (start)), (0, wm_r G (t)), (1, .long (start)), (3, .int (nI (r)))] dX5_foldPlaces_4 (by decide) rfl ?_
  have L_6 : ∀ (n_ : Nat) (i : Nat), ((M.1 (t + 2 + m) r).toNatClampNeg - i) < n_ → (i ≤ (M.1 (t + 2 + m) r).toNatClampNeg) → WA G t_X5_foldPlaces (fun v_ N_ => v_ = some (.long (hFold start (fun j => (M.1 (t + 2 + r) j).toInt64) (M.1 (t + 2 + m) r).toNatClampNeg)) ∧ N_ = M) 6 [(6, .int (nI (i))), (4, .long (hFold start (fun j => (M.1 (t + 2 + r) j).toInt64) i)), (0, wm_r G (t)), (1, .long (start)), (3, .int (nI (r)))] [] (M) := by
    intro n_
    induction n_ with
    | zero => intro i h_; exact absurd h_ (Nat.not_lt_zero _)
    | succ n_ ih_6 =>
      intro i h_ hi
      refine wa_iload dX5_foldPlaces_6 0 rfl ?_
      refine wa_aload_n dX5_foldPlaces_8 rfl 2 rfl ?_
      refine wa_iload_n dX5_foldPlaces_9 rfl 4 rfl ?_
      refine wa_cVi (m_sizeN t m len hT r hr) vX5_size iX5_foldPlaces_10 (hT.1) rfl rfl rfl (Nat.le_of_ble_eq_true rfl) ⟨by decide, by decide⟩ ?_
      refine wa_icmp_geN (a := i) (b := (M.1 (t + 2 + m) r).toNatClampNeg) 41 dX5_foldPlaces_13 (by decide) (by omega) (by omega) (fun c_13 => ?_) (fun c_13 => ?_)
      · refine wa_lload dX5_foldPlaces_41 1 rfl ?_
        exact wa_lret dX5_foldPlaces_43 rfl ⟨congrArg (fun z => some (Value.long z)) (by rw [show i = (M.1 (t + 2 + m) r).toNatClampNeg by omega]), rfl⟩
      · refine wa_ldc2 (31) dX5_foldPlaces_16 kX5_foldPlaces_16 ?_
        refine wa_lload dX5_foldPlaces_19 1 rfl ?_
        refine wa_lmul dX5_foldPlaces_21 ?_
        refine wa_aload_n dX5_foldPlaces_22 rfl 2 rfl ?_
        refine wa_getr gX5_foldPlaces_23 (hT.1) rfl ?_
        refine wa_iload_n dX5_foldPlaces_26 rfl 4 rfl ?_
        refine wa_aald1N (e := r) (Or.inl rfl) dX5_foldPlaces_27 (hT.2.1) (by omega) (by omega) ?_
        refine wa_iload dX5_foldPlaces_28 0 rfl ?_
        refine wa_ialdN (e := i) dX5_foldPlaces_30 (hT.2.2.1 r hr) (by omega) (by omega) ?_
        refine wa_i2l dX5_foldPlaces_31 ?_
        refine wa_ladd dX5_foldPlaces_32 ?_
        refine wa_eql (y := hFold start (fun j => (M.1 (t + 2 + r) j).toInt64) (i + 1)) (rfl) ?_
        refine wa_lstore [(4, .long (hFold start (fun j => (M.1 (t + 2 + r) j).toInt64) (i + 1))), (6, .int (nI (i))), (0, wm_r G (t)), (1, .long (start)), (3, .int (nI (r)))] dX5_foldPlaces_33 (by decide) rfl ?_
        refine wa_iinc ((nI (i + 1))) [(6, .int (nI (i + 1))), (4, .long (hFold start (fun j => (M.1 (t + 2 + r) j).toInt64) (i + 1))), (0, wm_r G (t)), (1, .long (start)), (3, .int (nI (r)))] dX5_foldPlaces_35 1 rfl (nI_inc _) (by decide) rfl ?_
        refine wa_goto 6 dX5_foldPlaces_38 (by decide) ?_
        exact ih_6 (i + 1) (by omega) (by omega)
  exact L_6 _ 0 (Nat.lt_succ_self _) (Nat.zero_le _)

theorem m_fold {G : wm_G} {M : wm_M} (t m len : Nat) (hT : TB t m len) (start : Int64) (hs : ∀ r, r < m → (M.1 (t + 2 + m) r).toNatClampNeg ≤ len) : MD G t_X5_fold [wm_r G (t), .long (start)] (M) (some (.long (tFold start (M.1 (t + 2 + m)) (fun r => M.1 (t + 2 + r)) m))) (M) := by
  obtain ⟨hm, hle⟩ := hT.2.2.2.2
  refine wm_met (by decide) (Nat.le_of_ble_eq_true rfl) ?_
  show WA G t_X5_fold (fun v_ N_ => v_ = some (.long (tFold start (M.1 (t + 2 + m)) (fun r => M.1 (t + 2 + r)) m)) ∧ N_ = M) 0 [(0, wm_r G (t)), (1, .long (start))] [] (M)
  refine wa_lload_n dX5_fold_0 rfl 1 rfl ?_
  refine wa_lstore_n [(3, .long (start)), (0, wm_r G (t)), (1, .long (start))] dX5_fold_1 rfl (by decide) rfl ?_
  refine wa_iconst (0) dX5_fold_2 (by decide) ?_
  refine wa_istore [(5, .int (0)), (3, .long (start)), (0, wm_r G (t)), (1, .long (start))] dX5_fold_3 (by decide) rfl ?_
  have L_5 : ∀ (n_ : Nat) (i : Nat), (m - i) < n_ → (i ≤ m) → WA G t_X5_fold (fun v_ N_ => v_ = some (.long (tFold start (M.1 (t + 2 + m)) (fun r => M.1 (t + 2 + r)) m)) ∧ N_ = M) 5 [(5, .int (nI (i))), (3, .long (tFold start (M.1 (t + 2 + m)) (fun r => M.1 (t + 2 + r)) i)), (0, wm_r G (t)), (1, .long (start))] [] (M) := by
    intro n_
    induction n_ with
    | zero => intro i h_; exact absurd h_ (Nat.not_lt_zero _)
    | succ n_ ih_5 =>
      intro i h_ hi
      refine wa_iload dX5_fold_5 0 rfl ?_
      refine wa_aload_n dX5_fold_7 rfl 2 rfl ?_
      refine wa_getr gX5_fold_8 (hT.1) rfl ?_
      refine wa_alen (nI (m)) dX5_fold_11 (hT.2.2.2.1) (by decide) rfl ?_
      refine wa_icmp_geN (a := i) (b := m) 42 dX5_fold_12 (by decide) (by omega) (by omega) (fun c_12 => ?_) (fun c_12 => ?_)
      · refine wa_lload_n dX5_fold_42 rfl 1 rfl ?_
        exact wa_lret dX5_fold_43 rfl ⟨congrArg (fun z => some (Value.long z)) (by rw [show i = m by omega]), rfl⟩
      · refine wa_aload_n dX5_fold_15 rfl 2 rfl ?_
        refine wa_ldc2 (31) dX5_fold_16 kX5_fold_16 ?_
        refine wa_lload_n dX5_fold_19 rfl 1 rfl ?_
        refine wa_lmul dX5_fold_20 ?_
        refine wa_aload_n dX5_fold_21 rfl 2 rfl ?_
        refine wa_getr gX5_fold_22 (hT.1) rfl ?_
        refine wa_iload dX5_fold_25 0 rfl ?_
        refine wa_ialdN (e := i) dX5_fold_27 (hT.2.2.2.1) (by omega) (by omega) ?_
        refine wa_i2l dX5_fold_28 ?_
        refine wa_ladd dX5_fold_29 ?_
        refine wa_iload dX5_fold_30 0 rfl ?_
        refine wa_cVl (m_foldPlaces t m len hT (((31) * (tFold start (M.1 (t + 2 + m)) (fun r => M.1 (t + 2 + r)) i)) + ((((M).1 (t + 2 + m) (i))).toInt64)) i c_12 (hs i c_12)) vX5_foldPlaces iX5_fold_32 (hT.1) rfl rfl rfl (Nat.le_of_ble_eq_true rfl) ⟨by decide, by decide⟩ ?_
        refine wa_lstore_n [(3, .long (tFold start (M.1 (t + 2 + m)) (fun r => M.1 (t + 2 + r)) (i + 1))), (5, .int (nI (i))), (0, wm_r G (t)), (1, .long (start))] dX5_fold_35 rfl (by decide) rfl ?_
        refine wa_iinc ((nI (i + 1))) [(5, .int (nI (i + 1))), (3, .long (tFold start (M.1 (t + 2 + m)) (fun r => M.1 (t + 2 + r)) (i + 1))), (0, wm_r G (t)), (1, .long (start))] dX5_fold_36 1 rfl (nI_inc _) (by decide) rfl ?_
        refine wa_goto 5 dX5_fold_39 (by decide) ?_
        exact ih_5 (i + 1) (by omega) (by omega)
  exact L_5 _ 0 (Nat.lt_succ_self _) (Nat.zero_le _)
