theorem m_knows {G : wm_G} {M : wm_M} (t m len : Nat) (hT : TB t m len) (r : Int32) : MD G t_X5_knows [wm_r G (t), .int (r)] (M) (some (.int (wB (wIn r m)))) (M) := by
  obtain ⟨hm, hle⟩ := hT.2.2.2.2
  refine wm_met (by decide) (Nat.le_of_ble_eq_true rfl) ?_
  show WA G t_X5_knows (fun v_ N_ => v_ = some (.int (wB (wIn r m))) ∧ N_ = M) 0 [(0, wm_r G (t)), (1, .int (r))] [] (M)
  refine wa_iload_n dX5_knows_0 rfl 1 rfl ?_
  refine wa_if_lt 17 dX5_knows_1 (by decide) (fun c_1 => ?_) (fun c_1 => ?_)
  · refine wa_iconst (0) dX5_knows_17 (by decide) ?_
    exact wa_zret dX5_knows_18 rfl (by decide) ⟨congrArg (fun z => some (Value.int z)) (by first | (rw [wIn_neg c_1]; rfl) | (rw [wIn_ge (by omega) c_10]; rfl) | (rw [wIn_of (by omega) c_1 c_10]; rfl)), rfl⟩
  · refine wa_iload_n dX5_knows_4 rfl 1 rfl ?_
    refine wa_aload_n dX5_knows_5 rfl 0 rfl ?_
    refine wa_getr gX5_knows_6 (hT.1) rfl ?_
    refine wa_alen (nI (m)) dX5_knows_9 (hT.2.2.2.1) (by decide) rfl ?_
    refine wa_icmp_ge 17 dX5_knows_10 (by decide) (fun c_10 => ?_) (fun c_10 => ?_)
    · refine wa_iconst (0) dX5_knows_17 (by decide) ?_
      exact wa_zret dX5_knows_18 rfl (by decide) ⟨congrArg (fun z => some (Value.int z)) (by first | (rw [wIn_neg c_1]; rfl) | (rw [wIn_ge (by omega) c_10]; rfl) | (rw [wIn_of (by omega) c_1 c_10]; rfl)), rfl⟩
    · refine wa_iconst (1) dX5_knows_13 (by decide) ?_
      refine wa_goto 18 dX5_knows_14 (by decide) ?_
      exact wa_zret dX5_knows_18 rfl (by decide) ⟨congrArg (fun z => some (Value.int z)) (by first | (rw [wIn_neg c_1]; rfl) | (rw [wIn_ge (by omega) c_10]; rfl) | (rw [wIn_of (by omega) c_1 c_10]; rfl)), rfl⟩

theorem m_knowsN {G : wm_G} {M : wm_M} (t m len : Nat) (hT : TB t m len) (r : Nat) (hr : r < m) : MD G t_X5_knows [wm_r G (t), .int (nI (r))] (M) (some (.int (1))) (M) := by
  obtain ⟨hm, hle⟩ := hT.2.2.2.2
  refine wm_met (by decide) (Nat.le_of_ble_eq_true rfl) ?_
  show WA G t_X5_knows (fun v_ N_ => v_ = some (.int (1)) ∧ N_ = M) 0 [(0, wm_r G (t)), (1, .int (nI (r)))] [] (M)
  refine wa_iload_n dX5_knows_0 rfl 1 rfl ?_
  refine wa_if_ltN (a := r) 17 dX5_knows_1 (by decide) (by omega) (fun c_1 => absurd c_1 (Nat.not_lt_zero _)) (fun c_1 => ?_)
  refine wa_iload_n dX5_knows_4 rfl 1 rfl ?_
  refine wa_aload_n dX5_knows_5 rfl 0 rfl ?_
  refine wa_getr gX5_knows_6 (hT.1) rfl ?_
  refine wa_alen (nI (m)) dX5_knows_9 (hT.2.2.2.1) (by decide) rfl ?_
  refine wa_icmp_geN (a := r) (b := m) 17 dX5_knows_10 (by decide) (by omega) (by omega) (fun c_10 => absurd c_10 (by omega)) (fun c_10 => ?_)
  refine wa_iconst (1) dX5_knows_13 (by decide) ?_
  refine wa_goto 18 dX5_knows_14 (by decide) ?_
  exact wa_zret dX5_knows_18 rfl (by decide) ⟨congrArg (fun z => some (Value.int z)) (rfl), rfl⟩

theorem m_has {G : wm_G} {M : wm_M} (t m len : Nat) (hT : TB t m len) (r : Int32) : MD G t_X5_has [wm_r G (t), .int (r)] (M) (some (.int (wB (wIn r m && !decide (M.1 (t + 2 + m) r.toNatClampNeg = -1))))) (M) := by
  obtain ⟨hm, hle⟩ := hT.2.2.2.2
  refine wm_met (by decide) (Nat.le_of_ble_eq_true rfl) ?_
  show WA G t_X5_has (fun v_ N_ => v_ = some (.int (wB (wIn r m && !decide (M.1 (t + 2 + m) r.toNatClampNeg = -1)))) ∧ N_ = M) 0 [(0, wm_r G (t)), (1, .int (r))] [] (M)
  refine wa_aload_n dX5_has_0 rfl 0 rfl ?_
  refine wa_iload_n dX5_has_1 rfl 1 rfl ?_
  refine wa_cVi (m_knows t m len hT r) vX5_knows iX5_has_2 (hT.1) rfl rfl rfl (Nat.le_of_ble_eq_true rfl) ⟨by decide, by decide⟩ ?_
  refine wa_if_eqB 22 dX5_has_5 (by decide) (fun (c_5 : (wIn r m) = false) => ?_) (fun (c_5 : (wIn r m) = true) => ?_)
  · refine wa_iconst (0) dX5_has_22 (by decide) ?_
    exact wa_zret dX5_has_23 rfl (by decide) ⟨congrArg (fun z => some (Value.int z)) (by first | (rw [c_5]; rfl) | (simp [c_5, c_15, wB])), rfl⟩
  · refine wa_aload_n dX5_has_8 rfl 0 rfl ?_
    refine wa_getr gX5_has_9 (hT.1) rfl ?_
    refine wa_iload_n dX5_has_12 rfl 1 rfl ?_
    refine wa_iald dX5_has_13 (hT.2.2.2.1) (wIn_vp c_5) ?_
    refine wa_iconst (-1) dX5_has_14 (by decide) ?_
    refine wa_icmp_eq 22 dX5_has_15 (by decide) (fun c_15 => ?_) (fun c_15 => ?_)
    · refine wa_iconst (0) dX5_has_22 (by decide) ?_
      exact wa_zret dX5_has_23 rfl (by decide) ⟨congrArg (fun z => some (Value.int z)) (by first | (rw [c_5]; rfl) | (simp [c_5, c_15, wB])), rfl⟩
    · refine wa_iconst (1) dX5_has_18 (by decide) ?_
      refine wa_goto 23 dX5_has_19 (by decide) ?_
      exact wa_zret dX5_has_23 rfl (by decide) ⟨congrArg (fun z => some (Value.int z)) (by first | (rw [c_5]; rfl) | (simp [c_5, c_15, wB])), rfl⟩

theorem m_hasN {G : wm_G} {M : wm_M} (t m len : Nat) (hT : TB t m len) (r : Nat) (hr : r < m) : MD G t_X5_has [wm_r G (t), .int (nI (r))] (M) (some (.int (wB (!decide (M.1 (t + 2 + m) r = -1))))) (M) := by
  obtain ⟨hm, hle⟩ := hT.2.2.2.2
  refine wm_met (by decide) (Nat.le_of_ble_eq_true rfl) ?_
  show WA G t_X5_has (fun v_ N_ => v_ = some (.int (wB (!decide (M.1 (t + 2 + m) r = -1)))) ∧ N_ = M) 0 [(0, wm_r G (t)), (1, .int (nI (r)))] [] (M)
  refine wa_aload_n dX5_has_0 rfl 0 rfl ?_
  refine wa_iload_n dX5_has_1 rfl 1 rfl ?_
  refine wa_cVi (m_knowsN t m len hT r hr) vX5_knows iX5_has_2 (hT.1) rfl rfl rfl (Nat.le_of_ble_eq_true rfl) ⟨by decide, by decide⟩ ?_
  refine wa_if_eq 22 dX5_has_5 (by decide) (fun c_5 => absurd c_5 (by decide)) (fun c_5 => ?_)
  refine wa_aload_n dX5_has_8 rfl 0 rfl ?_
  refine wa_getr gX5_has_9 (hT.1) rfl ?_
  refine wa_iload_n dX5_has_12 rfl 1 rfl ?_
  refine wa_ialdN (e := r) dX5_has_13 (hT.2.2.2.1) (by omega) (by omega) ?_
  refine wa_iconst (-1) dX5_has_14 (by decide) ?_
  refine wa_icmp_eq 22 dX5_has_15 (by decide) (fun c_15 => ?_) (fun c_15 => ?_)
  · refine wa_iconst (0) dX5_has_22 (by decide) ?_
    exact wa_zret dX5_has_23 rfl (by decide) ⟨congrArg (fun z => some (Value.int z)) (by simp [c_15, wB]), rfl⟩
  · refine wa_iconst (1) dX5_has_18 (by decide) ?_
    refine wa_goto 23 dX5_has_19 (by decide) ?_
    exact wa_zret dX5_has_23 rfl (by decide) ⟨congrArg (fun z => some (Value.int z)) (by simp [c_15, wB]), rfl⟩

theorem m_sizeN {G : wm_G} {M : wm_M} (t m len : Nat) (hT : TB t m len) (r : Nat) (hr : r < m) : MD G t_X5_size [wm_r G (t), .int (nI (r))] (M) (some (.int (nI ((M.1 (t + 2 + m) r).toNatClampNeg)))) (M) := by
  obtain ⟨hm, hle⟩ := hT.2.2.2.2
  refine wm_met (by decide) (Nat.le_of_ble_eq_true rfl) ?_
  show WA G t_X5_size (fun v_ N_ => v_ = some (.int (nI ((M.1 (t + 2 + m) r).toNatClampNeg))) ∧ N_ = M) 0 [(0, wm_r G (t)), (1, .int (nI (r)))] [] (M)
  refine wa_aload_n dX5_size_0 rfl 0 rfl ?_
  refine wa_iload_n dX5_size_1 rfl 1 rfl ?_
  refine wa_cVi (m_knowsN t m len hT r hr) vX5_knows iX5_size_2 (hT.1) rfl rfl rfl (Nat.le_of_ble_eq_true rfl) ⟨by decide, by decide⟩ ?_
  refine wa_if_eq 21 dX5_size_5 (by decide) (fun c_5 => absurd c_5 (by decide)) (fun c_5 => ?_)
  refine wa_aload_n dX5_size_8 rfl 0 rfl ?_
  refine wa_getr gX5_size_9 (hT.1) rfl ?_
  refine wa_iload_n dX5_size_12 rfl 1 rfl ?_
  refine wa_ialdN (e := r) dX5_size_13 (hT.2.2.2.1) (by omega) (by omega) ?_
  refine wa_iconst (0) dX5_size_14 (by decide) ?_
  refine wa_max iX5_size_15 ⟨by decide, Nat.le_of_ble_eq_true rfl⟩ ?_
  refine wa_goto 22 dX5_size_18 (by decide) ?_
  exact wa_iret dX5_size_22 rfl ⟨congrArg (fun z => some (Value.int z)) (wClamp _), rfl⟩

theorem m_holds {G : wm_G} {M : wm_M} (t m len : Nat) (hT : TB t m len) (r i n : Int32) : MD G t_X5_holds [wm_r G (t), .int (r), .int (i), .int (n)] (M) (some (.int (wB (wIn r m && (!decide (i < 0) && decide (n ≤ M.1 (t + 2 + m) r.toNatClampNeg - i)))))) (M) := by
  obtain ⟨hm, hle⟩ := hT.2.2.2.2
  refine wm_met (by decide) (Nat.le_of_ble_eq_true rfl) ?_
  show WA G t_X5_holds (fun v_ N_ => v_ = some (.int (wB (wIn r m && (!decide (i < 0) && decide (n ≤ M.1 (t + 2 + m) r.toNatClampNeg - i))))) ∧ N_ = M) 0 [(0, wm_r G (t)), (1, .int (r)), (2, .int (i)), (3, .int (n))] [] (M)
  refine wa_aload_n dX5_holds_0 rfl 0 rfl ?_
  refine wa_iload_n dX5_holds_1 rfl 1 rfl ?_
  refine wa_cVi (m_knows t m len hT r) vX5_knows iX5_holds_2 (hT.1) rfl rfl rfl (Nat.le_of_ble_eq_true rfl) ⟨by decide, by decide⟩ ?_
  refine wa_if_eqB 28 dX5_holds_5 (by decide) (fun (c_5 : (wIn r m) = false) => ?_) (fun (c_5 : (wIn r m) = true) => ?_)
  · refine wa_iconst (0) dX5_holds_28 (by decide) ?_
    exact wa_zret dX5_holds_29 rfl (by decide) ⟨congrArg (fun z => some (Value.int z)) (by first | (rw [c_5]; rfl) | (simp [c_5, c_9, wB]; done) | (simp [c_5, c_9, c_21, wB]; done) | (have c9 := Int32.not_lt.mp c_9; have c21 := Int32.not_lt.mp c_21; simp [c_5, c9, c21, wB]; done)), rfl⟩
  · refine wa_iload_n dX5_holds_8 rfl 2 rfl ?_
    refine wa_if_lt 28 dX5_holds_9 (by decide) (fun c_9 => ?_) (fun c_9 => ?_)
    · refine wa_iconst (0) dX5_holds_28 (by decide) ?_
      exact wa_zret dX5_holds_29 rfl (by decide) ⟨congrArg (fun z => some (Value.int z)) (by first | (rw [c_5]; rfl) | (simp [c_5, c_9, wB]; done) | (simp [c_5, c_9, c_21, wB]; done) | (have c9 := Int32.not_lt.mp c_9; have c21 := Int32.not_lt.mp c_21; simp [c_5, c9, c21, wB]; done)), rfl⟩
    · refine wa_iload_n dX5_holds_12 rfl 3 rfl ?_
      refine wa_aload_n dX5_holds_13 rfl 0 rfl ?_
      refine wa_getr gX5_holds_14 (hT.1) rfl ?_
      refine wa_iload_n dX5_holds_17 rfl 1 rfl ?_
      refine wa_iald dX5_holds_18 (hT.2.2.2.1) (wIn_vp c_5) ?_
      refine wa_iload_n dX5_holds_19 rfl 2 rfl ?_
      refine wa_isub dX5_holds_20 ?_
      refine wa_icmp_gt 28 dX5_holds_21 (by decide) (fun c_21 => ?_) (fun c_21 => ?_)
      · refine wa_iconst (0) dX5_holds_28 (by decide) ?_
        exact wa_zret dX5_holds_29 rfl (by decide) ⟨congrArg (fun z => some (Value.int z)) (by first | (rw [c_5]; rfl) | (simp [c_5, c_9, wB]; done) | (simp [c_5, c_9, c_21, wB]; done) | (have c9 := Int32.not_lt.mp c_9; have c21 := Int32.not_lt.mp c_21; simp [c_5, c9, c21, wB]; done)), rfl⟩
      · refine wa_iconst (1) dX5_holds_24 (by decide) ?_
        refine wa_goto 29 dX5_holds_25 (by decide) ?_
        exact wa_zret dX5_holds_29 rfl (by decide) ⟨congrArg (fun z => some (Value.int z)) (by first | (rw [c_5]; rfl) | (simp [c_5, c_9, wB]; done) | (simp [c_5, c_9, c_21, wB]; done) | (have c9 := Int32.not_lt.mp c_9; have c21 := Int32.not_lt.mp c_21; simp [c_5, c9, c21, wB]; done)), rfl⟩

theorem m_getN {G : wm_G} {M : wm_M} (t m len : Nat) (hT : TB t m len) (r i s : Nat) (hr : r < m) (hi : i < 2 ^ 31) (hs : M.1 (t + 2 + m) r = nI s) (hsl : s ≤ len) : MD G t_X5_get [wm_r G (t), .int (nI (r)), .int (nI (i))] (M) (some (.int (if i < s then M.1 (t + 2 + r) i else 0))) (M) := by
  obtain ⟨hm, hle⟩ := hT.2.2.2.2
  refine wm_met (by decide) (Nat.le_of_ble_eq_true rfl) ?_
  show WA G t_X5_get (fun v_ N_ => v_ = some (.int (if i < s then M.1 (t + 2 + r) i else 0)) ∧ N_ = M) 0 [(0, wm_r G (t)), (1, .int (nI (r))), (2, .int (nI (i)))] [] (M)
  refine wa_aload_n dX5_get_0 rfl 0 rfl ?_
  refine wa_iload_n dX5_get_1 rfl 1 rfl ?_
  refine wa_cVi (m_knowsN t m len hT r hr) vX5_knows iX5_get_2 (hT.1) rfl rfl rfl (Nat.le_of_ble_eq_true rfl) ⟨by decide, by decide⟩ ?_
  refine wa_if_eq 33 dX5_get_5 (by decide) (fun c_5 => absurd c_5 (by decide)) (fun c_5 => ?_)
  refine wa_iload_n dX5_get_8 rfl 2 rfl ?_
  refine wa_if_ltN (a := i) 33 dX5_get_9 (by decide) (by omega) (fun c_9 => absurd c_9 (Nat.not_lt_zero _)) (fun c_9 => ?_)
  refine wa_iload_n dX5_get_12 rfl 2 rfl ?_
  refine wa_aload_n dX5_get_13 rfl 0 rfl ?_
  refine wa_getr gX5_get_14 (hT.1) rfl ?_
  refine wa_iload_n dX5_get_17 rfl 1 rfl ?_
  refine wa_ialdN (e := r) dX5_get_18 (hT.2.2.2.1) (by omega) (by omega) ?_
  refine wa_eqi (y := (nI (s))) (hs) ?_
  refine wa_icmp_geN (a := i) (b := s) 33 dX5_get_19 (by decide) (by omega) (by omega) (fun c_19 => ?_) (fun c_19 => ?_)
  · refine wa_iconst (0) dX5_get_33 (by decide) ?_
    exact wa_iret dX5_get_34 rfl ⟨congrArg (fun z => some (Value.int z)) (by first | (rw [if_neg (Nat.not_lt.mpr c_19)]) | (rw [if_pos c_19])), rfl⟩
  · refine wa_aload_n dX5_get_22 rfl 0 rfl ?_
    refine wa_getr gX5_get_23 (hT.1) rfl ?_
    refine wa_iload_n dX5_get_26 rfl 1 rfl ?_
    refine wa_aald1N (e := r) (Or.inl rfl) dX5_get_27 (hT.2.1) (by omega) (by omega) ?_
    refine wa_iload_n dX5_get_28 rfl 2 rfl ?_
    refine wa_ialdN (e := i) dX5_get_29 (hT.2.2.1 r hr) (by omega) (by omega) ?_
    refine wa_goto 34 dX5_get_30 (by decide) ?_
    exact wa_iret dX5_get_34 rfl ⟨congrArg (fun z => some (Value.int z)) (by first | (rw [if_neg (Nat.not_lt.mpr c_19)]) | (rw [if_pos c_19])), rfl⟩

theorem m_setN {G : wm_G} {M : wm_M} (t m len : Nat) (hT : TB t m len) (r i s : Nat) (v : Int32) (hr : r < m) (hi : i < s) (hs : M.1 (t + 2 + m) r = nI s) (hsl : s ≤ len) : MD G t_X5_set [wm_r G (t), .int (nI (r)), .int (nI (i)), .int (v)] (M) (none) (wI M (t + 2 + r) i v) := by
  obtain ⟨hm, hle⟩ := hT.2.2.2.2
  refine wm_met (by decide) (Nat.le_of_ble_eq_true rfl) ?_
  show WA G t_X5_set (fun v_ N_ => v_ = none ∧ N_ = wI M (t + 2 + r) i v) 0 [(0, wm_r G (t)), (1, .int (nI (r))), (2, .int (nI (i))), (3, .int (v))] [] (M)
  refine wa_aload_n dX5_set_0 rfl 0 rfl ?_
  refine wa_iload_n dX5_set_1 rfl 1 rfl ?_
  refine wa_cVi (m_knowsN t m len hT r hr) vX5_knows iX5_set_2 (hT.1) rfl rfl rfl (Nat.le_of_ble_eq_true rfl) ⟨by decide, by decide⟩ ?_
  refine wa_if_eq 31 dX5_set_5 (by decide) (fun c_5 => absurd c_5 (by decide)) (fun c_5 => ?_)
  refine wa_iload_n dX5_set_8 rfl 2 rfl ?_
  refine wa_if_ltN (a := i) 31 dX5_set_9 (by decide) (by omega) (fun c_9 => absurd c_9 (Nat.not_lt_zero _)) (fun c_9 => ?_)
  refine wa_iload_n dX5_set_12 rfl 2 rfl ?_
  refine wa_aload_n dX5_set_13 rfl 0 rfl ?_
  refine wa_getr gX5_set_14 (hT.1) rfl ?_
  refine wa_iload_n dX5_set_17 rfl 1 rfl ?_
  refine wa_ialdN (e := r) dX5_set_18 (hT.2.2.2.1) (by omega) (by omega) ?_
  refine wa_eqi (y := (nI (s))) (hs) ?_
  refine wa_icmp_geN (a := i) (b := s) 31 dX5_set_19 (by decide) (by omega) (by omega) (fun c_19 => absurd c_19 (by omega)) (fun c_19 => ?_)
  refine wa_aload_n dX5_set_22 rfl 0 rfl ?_
  refine wa_getr gX5_set_23 (hT.1) rfl ?_
  refine wa_iload_n dX5_set_26 rfl 1 rfl ?_
  refine wa_aald1N (e := r) (Or.inl rfl) dX5_set_27 (hT.2.1) (by omega) (by omega) ?_
  refine wa_iload_n dX5_set_28 rfl 2 rfl ?_
  refine wa_iload_n dX5_set_29 rfl 3 rfl ?_
  refine wa_iastN (e := i) dX5_set_30 (hT.2.2.1 r hr) (by omega) (by omega) ?_
  exact wa_vret dX5_set_31 rfl ⟨rfl, rfl⟩

theorem m_dropN {G : wm_G} {M : wm_M} (t m len : Nat) (hT : TB t m len) (r : Nat) (hr : r < m) : MD G t_X5_drop [wm_r G (t), .int (nI (r))] (M) (none) (wI M (t + 2 + m) r (-1)) := by
  obtain ⟨hm, hle⟩ := hT.2.2.2.2
  refine wm_met (by decide) (Nat.le_of_ble_eq_true rfl) ?_
  show WA G t_X5_drop (fun v_ N_ => v_ = none ∧ N_ = wI M (t + 2 + m) r (-1)) 0 [(0, wm_r G (t)), (1, .int (nI (r)))] [] (M)
  refine wa_aload_n dX5_drop_0 rfl 0 rfl ?_
  refine wa_iload_n dX5_drop_1 rfl 1 rfl ?_
  refine wa_cVi (m_knowsN t m len hT r hr) vX5_knows iX5_drop_2 (hT.1) rfl rfl rfl (Nat.le_of_ble_eq_true rfl) ⟨by decide, by decide⟩ ?_
  refine wa_if_eq 15 dX5_drop_5 (by decide) (fun c_5 => absurd c_5 (by decide)) (fun c_5 => ?_)
  refine wa_aload_n dX5_drop_8 rfl 0 rfl ?_
  refine wa_getr gX5_drop_9 (hT.1) rfl ?_
  refine wa_iload_n dX5_drop_12 rfl 1 rfl ?_
  refine wa_iconst (-1) dX5_drop_13 (by decide) ?_
  refine wa_iastN (e := r) dX5_drop_14 (hT.2.2.2.1) (by omega) (by omega) ?_
  exact wa_vret dX5_drop_15 rfl ⟨rfl, rfl⟩

theorem m_beginN {G : wm_G} {M : wm_M} (t m len : Nat) (hT : TB t m len) (r n : Nat) (v : Int32) (hr : r < m) (hn : n ≤ len) (hL : M.1 t 0 = nI len) : MD G t_X5_begin [wm_r G (t), .int (nI (r)), .int (nI (n)), .int (v)] (M) (none) (wIa (wI M (t + 2 + m) r (nI n)) (t + 2 + r) (wFill (M.1 (t + 2 + r)) 0 n v)) := by
  obtain ⟨hm, hle⟩ := hT.2.2.2.2
  refine wm_met (by decide) (Nat.le_of_ble_eq_true rfl) ?_
  show WA G t_X5_begin (fun v_ N_ => v_ = none ∧ N_ = wIa (wI M (t + 2 + m) r (nI n)) (t + 2 + r) (wFill (M.1 (t + 2 + r)) 0 n v)) 0 [(0, wm_r G (t)), (1, .int (nI (r))), (2, .int (nI (n))), (3, .int (v))] [] (M)
  refine wa_aload_n dX5_begin_0 rfl 0 rfl ?_
  refine wa_iload_n dX5_begin_1 rfl 1 rfl ?_
  refine wa_cVi (m_knowsN t m len hT r hr) vX5_knows iX5_begin_2 (hT.1) rfl rfl rfl (Nat.le_of_ble_eq_true rfl) ⟨by decide, by decide⟩ ?_
  refine wa_if_eq 20 dX5_begin_5 (by decide) (fun c_5 => absurd c_5 (by decide)) (fun c_5 => ?_)
  refine wa_iload_n dX5_begin_8 rfl 2 rfl ?_
  refine wa_if_ltN (a := n) 20 dX5_begin_9 (by decide) (by omega) (fun c_9 => absurd c_9 (Nat.not_lt_zero _)) (fun c_9 => ?_)
  refine wa_iload_n dX5_begin_12 rfl 2 rfl ?_
  refine wa_aload_n dX5_begin_13 rfl 0 rfl ?_
  refine wa_geti gX5_begin_14 (hT.1) rfl ?_
  refine wa_eqi (y := (nI (len))) (hL) ?_
  refine wa_icmp_leN (a := n) (b := len) 21 dX5_begin_17 (by decide) (by omega) (by omega) (fun c_17 => ?_) (fun c_17 => absurd c_17 (by omega))
  refine wa_aload_n dX5_begin_21 rfl 0 rfl ?_
  refine wa_getr gX5_begin_22 (hT.1) rfl ?_
  refine wa_iload_n dX5_begin_25 rfl 1 rfl ?_
  refine wa_iload_n dX5_begin_26 rfl 2 rfl ?_
  refine wa_iastN (e := r) dX5_begin_27 (hT.2.2.2.1) (by omega) (by omega) ?_
  refine wa_aload_n dX5_begin_28 rfl 0 rfl ?_
  refine wa_getr gX5_begin_29 (hT.1) rfl ?_
  refine wa_iload_n dX5_begin_32 rfl 1 rfl ?_
  refine wa_aald1N (e := r) (Or.inl rfl) dX5_begin_33 (hT.2.1) (by omega) (by omega) ?_
  refine wa_iconst (0) dX5_begin_34 (by decide) ?_
  refine wa_iload_n dX5_begin_35 rfl 2 rfl ?_
  refine wa_iload_n dX5_begin_36 rfl 3 rfl ?_
  refine wa_cSv (m_fill4 (t + 2 + r) len 0 n v (hT.2.2.1 r hr) (Nat.zero_le _) hn (by omega)) vJ7_fill_fda19 iX5_begin_37 rfl rfl (Nat.le_of_ble_eq_true rfl) ⟨by decide, by decide⟩ ?_
  exact wa_vret dX5_begin_40 rfl ⟨rfl, by rw [show (wI M (t + 2 + m) r (nI n)).1 (t + 2 + r) = M.1 (t + 2 + r) from wIa_n (by omega)]⟩

theorem m_moveN {G : wm_G} {M : wm_M} (t m len : Nat) (hT : TB t m len) (r i to j n s s2 : Nat) (hr : r < m) (hto : to < m) (hs : M.1 (t + 2 + m) r = nI s) (hs2 : M.1 (t + 2 + m) to = nI s2) (hsl : s ≤ len) (hsl2 : s2 ≤ len) (hi : i + n ≤ s) (hj : j + n ≤ s2) : MD G t_X5_move [wm_r G (t), .int (nI (r)), .int (nI (i)), .int (nI (to)), .int (nI (j)), .int (nI (n))] (M) (none) (wIa M (t + 2 + to) (va_cpy (M.1 (t + 2 + r)) (M.1 (t + 2 + to)) i j n)) := by
  obtain ⟨hm, hle⟩ := hT.2.2.2.2
  refine wm_met (by decide) (Nat.le_of_ble_eq_true rfl) ?_
  show WA G t_X5_move (fun v_ N_ => v_ = none ∧ N_ = wIa M (t + 2 + to) (va_cpy (M.1 (t + 2 + r)) (M.1 (t + 2 + to)) i j n)) 0 [(0, wm_r G (t)), (1, .int (nI (r))), (2, .int (nI (i))), (3, .int (nI (to))), (4, .int (nI (j))), (5, .int (nI (n)))] [] (M)
  refine wa_iload dX5_move_0 5 rfl ?_
  refine wa_if_ltN (a := n) 28 dX5_move_2 (by decide) (by omega) (fun c_2 => absurd c_2 (Nat.not_lt_zero _)) (fun c_2 => ?_)
  refine wa_aload_n dX5_move_5 rfl 0 rfl ?_
  refine wa_iload_n dX5_move_6 rfl 1 rfl ?_
  refine wa_iload_n dX5_move_7 rfl 2 rfl ?_
  refine wa_iload dX5_move_8 5 rfl ?_
  refine wa_cVi (m_holds t m len hT (nI r) (nI i) (nI n)) vX5_holds iX5_move_10 (hT.1) rfl rfl rfl (Nat.le_of_ble_eq_true rfl) ⟨by decide, by decide⟩ ?_
  refine wa_if_eqB 28 dX5_move_13 (by decide) (fun c_13 => absurd c_13 (by rw [wIn_nI (by omega), nI_clamp (by omega), hs, pk_sub (by omega)]; simp [nI_leI (show n < 2 ^ 31 by omega) (show s - i < 2 ^ 31 by omega), nI_pos (show i < 2 ^ 31 by omega)]; omega)) (fun c_13 => ?_)
  refine wa_aload_n dX5_move_16 rfl 0 rfl ?_
  refine wa_iload_n dX5_move_17 rfl 3 rfl ?_
  refine wa_iload dX5_move_18 4 rfl ?_
  refine wa_iload dX5_move_20 5 rfl ?_
  refine wa_cVi (m_holds t m len hT (nI to) (nI j) (nI n)) vX5_holds iX5_move_22 (hT.1) rfl rfl rfl (Nat.le_of_ble_eq_true rfl) ⟨by decide, by decide⟩ ?_
  refine wa_if_neB 29 dX5_move_25 (by decide) (fun c_25 => ?_) (fun c_25 => absurd c_25 (by rw [wIn_nI (by omega), nI_clamp (by omega), hs2, pk_sub (by omega)]; simp [nI_leI (show n < 2 ^ 31 by omega) (show s2 - j < 2 ^ 31 by omega), nI_pos (show j < 2 ^ 31 by omega)]; omega))
  refine wa_aload_n dX5_move_29 rfl 0 rfl ?_
  refine wa_getr gX5_move_30 (hT.1) rfl ?_
  refine wa_iload_n dX5_move_33 rfl 1 rfl ?_
  refine wa_aald1N (e := r) (Or.inl rfl) dX5_move_34 (hT.2.1) (by omega) (by omega) ?_
  refine wa_iload_n dX5_move_35 rfl 2 rfl ?_
  refine wa_aload_n dX5_move_36 rfl 0 rfl ?_
  refine wa_getr gX5_move_37 (hT.1) rfl ?_
  refine wa_iload_n dX5_move_40 rfl 3 rfl ?_
  refine wa_aald1N (e := to) (Or.inl rfl) dX5_move_41 (hT.2.1) (by omega) (by omega) ?_
  refine wa_iload dX5_move_42 4 rfl ?_
  refine wa_iload dX5_move_44 5 rfl ?_
  refine wa_copyi iX5_move_46 (hT.2.2.1 r hr) (hT.2.2.1 to hto) (nI_pos (by omega)) (nI_pos (by omega)) (nI_pos (by omega)) (by rw [nI_clamp (by omega), nI_clamp (by omega)]; omega) (by rw [nI_clamp (by omega), nI_clamp (by omega)]; omega) ⟨by decide, Nat.le_of_ble_eq_true rfl⟩ ?_
  exact wa_vret dX5_move_49 rfl ⟨rfl, by rw [nI_clamp (by omega), nI_clamp (by omega), nI_clamp (by omega)]⟩
