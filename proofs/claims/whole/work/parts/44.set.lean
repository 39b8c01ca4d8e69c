theorem m_bitCountL {G : wm_G} {M : wm_M} (x : Int64) : MD G t_J13_bitCount_95d88 [.long (x)] (M) (some (.int (bcL x))) (M) := by
  refine wm_met (by decide) (Nat.le_of_ble_eq_true rfl) ?_
  show WA G t_J13_bitCount_95d88 (fun v_ N_ => v_ = some (.int (bcL x)) ∧ N_ = M) 0 [(0, .long (x))] [] (M)
  refine wa_lload_n dJ13_bitCount_95d88_0 rfl 0 rfl ?_
  refine wa_lload_n dJ13_bitCount_95d88_1 rfl 0 rfl ?_
  refine wa_iconst (1) dJ13_bitCount_95d88_2 (by decide) ?_
  refine wa_lushr dJ13_bitCount_95d88_3 ?_
  refine wa_ldc2 (6148914691236517205) dJ13_bitCount_95d88_4 kJ13_bitCount_95d88_4 ?_
  refine wa_land dJ13_bitCount_95d88_7 ?_
  refine wa_lsub dJ13_bitCount_95d88_8 ?_
  refine wa_topl (fun x1 e_x1 => ?_)
  refine wa_lstore_n [(0, .long (x1))] dJ13_bitCount_95d88_9 rfl (by decide) rfl ?_
  refine wa_lload_n dJ13_bitCount_95d88_10 rfl 0 rfl ?_
  refine wa_ldc2 (3689348814741910323) dJ13_bitCount_95d88_11 kJ13_bitCount_95d88_11 ?_
  refine wa_land dJ13_bitCount_95d88_14 ?_
  refine wa_lload_n dJ13_bitCount_95d88_15 rfl 0 rfl ?_
  refine wa_iconst (2) dJ13_bitCount_95d88_16 (by decide) ?_
  refine wa_lushr dJ13_bitCount_95d88_17 ?_
  refine wa_ldc2 (3689348814741910323) dJ13_bitCount_95d88_18 kJ13_bitCount_95d88_18 ?_
  refine wa_land dJ13_bitCount_95d88_21 ?_
  refine wa_ladd dJ13_bitCount_95d88_22 ?_
  refine wa_topl (fun x2 e_x2 => ?_)
  refine wa_lstore_n [(0, .long (x2))] dJ13_bitCount_95d88_23 rfl (by decide) rfl ?_
  refine wa_lload_n dJ13_bitCount_95d88_24 rfl 0 rfl ?_
  refine wa_lload_n dJ13_bitCount_95d88_25 rfl 0 rfl ?_
  refine wa_iconst (4) dJ13_bitCount_95d88_26 (by decide) ?_
  refine wa_lushr dJ13_bitCount_95d88_27 ?_
  refine wa_ladd dJ13_bitCount_95d88_28 ?_
  refine wa_ldc2 (1085102592571150095) dJ13_bitCount_95d88_29 kJ13_bitCount_95d88_29 ?_
  refine wa_land dJ13_bitCount_95d88_32 ?_
  refine wa_topl (fun x3 e_x3 => ?_)
  refine wa_lstore_n [(0, .long (x3))] dJ13_bitCount_95d88_33 rfl (by decide) rfl ?_
  refine wa_lload_n dJ13_bitCount_95d88_34 rfl 0 rfl ?_
  refine wa_lload_n dJ13_bitCount_95d88_35 rfl 0 rfl ?_
  refine wa_bipush (8) dJ13_bitCount_95d88_36 (by decide) ?_
  refine wa_lushr dJ13_bitCount_95d88_38 ?_
  refine wa_ladd dJ13_bitCount_95d88_39 ?_
  refine wa_topl (fun x4 e_x4 => ?_)
  refine wa_lstore_n [(0, .long (x4))] dJ13_bitCount_95d88_40 rfl (by decide) rfl ?_
  refine wa_lload_n dJ13_bitCount_95d88_41 rfl 0 rfl ?_
  refine wa_lload_n dJ13_bitCount_95d88_42 rfl 0 rfl ?_
  refine wa_bipush (16) dJ13_bitCount_95d88_43 (by decide) ?_
  refine wa_lushr dJ13_bitCount_95d88_45 ?_
  refine wa_ladd dJ13_bitCount_95d88_46 ?_
  refine wa_topl (fun x5 e_x5 => ?_)
  refine wa_lstore_n [(0, .long (x5))] dJ13_bitCount_95d88_47 rfl (by decide) rfl ?_
  refine wa_lload_n dJ13_bitCount_95d88_48 rfl 0 rfl ?_
  refine wa_lload_n dJ13_bitCount_95d88_49 rfl 0 rfl ?_
  refine wa_bipush (32) dJ13_bitCount_95d88_50 (by decide) ?_
  refine wa_lushr dJ13_bitCount_95d88_52 ?_
  refine wa_ladd dJ13_bitCount_95d88_53 ?_
  refine wa_topl (fun x6 e_x6 => ?_)
  refine wa_lstore_n [(0, .long (x6))] dJ13_bitCount_95d88_54 rfl (by decide) rfl ?_
  refine wa_lload_n dJ13_bitCount_95d88_55 rfl 0 rfl ?_
  refine wa_l2i dJ13_bitCount_95d88_56 ?_
  refine wa_bipush (127) dJ13_bitCount_95d88_57 (by decide) ?_
  refine wa_iand dJ13_bitCount_95d88_59 ?_
  exact wa_iret dJ13_bitCount_95d88_60 rfl ⟨congrArg (fun z => some (Value.int z)) (by subst_vars; rfl), rfl⟩

theorem m_clear {G : wm_G} {M : wm_M} (k : Nat) (hk : SS k) : MD G t_X3_clear [wm_r G (k)] (M) (none) (wJa M (k + 1) (wFill (M.2.1 (k + 1)) 0 64 0)) := by
  refine wm_met (by decide) (Nat.le_of_ble_eq_true rfl) ?_
  show WA G t_X3_clear (fun v_ N_ => v_ = none ∧ N_ = wJa M (k + 1) (wFill (M.2.1 (k + 1)) 0 64 0)) 0 [(0, wm_r G (k))] [] (M)
  refine wa_aload_n dX3_clear_0 rfl 0 rfl ?_
  refine wa_getr gX3_clear_1 (hk.1) rfl ?_
  refine wa_lconst (0) dX3_clear_4 (by decide) ?_
  refine wa_cSv (m_fillL (k + 1) 64 0 hk.2 (by decide)) vJ7_fill_d0a16 iX3_clear_5 rfl rfl (Nat.le_of_ble_eq_true rfl) ⟨by decide, by decide⟩ ?_
  exact wa_vret dX3_clear_8 rfl ⟨rfl, rfl⟩

theorem m_stake {G : wm_G} {M : wm_M} (k k2 : Nat) (hk : SS k) (hk2 : SS k2) : MD G t_X3_take [wm_r G (k), wm_r G (k2)] (M) (none) (wJa M (k + 1) (va_cpy (M.2.1 (k2 + 1)) (M.2.1 (k + 1)) 0 0 64)) := by
  refine wm_met (by decide) (Nat.le_of_ble_eq_true rfl) ?_
  show WA G t_X3_take (fun v_ N_ => v_ = none ∧ N_ = wJa M (k + 1) (va_cpy (M.2.1 (k2 + 1)) (M.2.1 (k + 1)) 0 0 64)) 0 [(0, wm_r G (k)), (1, wm_r G (k2))] [] (M)
  refine wa_aload_n dX3_take_0 rfl 1 rfl ?_
  refine wa_getr gX3_take_1 (hk2.1) rfl ?_
  refine wa_iconst (0) dX3_take_4 (by decide) ?_
  refine wa_aload_n dX3_take_5 rfl 0 rfl ?_
  refine wa_getr gX3_take_6 (hk.1) rfl ?_
  refine wa_iconst (0) dX3_take_9 (by decide) ?_
  refine wa_bipush (64) dX3_take_10 (by decide) ?_
  refine wa_copyl iX3_take_12 (hk2.2) (hk.2) (by decide) (by decide) (by decide) (by decide) (by decide) ⟨by decide, Nat.le_of_ble_eq_true rfl⟩ ?_
  exact wa_vret dX3_take_15 rfl ⟨rfl, rfl⟩

theorem m_only {G : wm_G} {M : wm_M} (k : Nat) (hk : SS k) (s : Nat) (hs : s < 4096) : MD G t_X3_only [wm_r G (k), .int (nI (s))] (M) (none) (wJa M (k + 1) (vp_updL (wFill (M.2.1 (k + 1)) 0 64 0) (s / 64) ((1 : Int64) <<< ((nI (s % 64)).toInt64 &&& 63)))) := by
  refine wm_met (by decide) (Nat.le_of_ble_eq_true rfl) ?_
  show WA G t_X3_only (fun v_ N_ => v_ = none ∧ N_ = wJa M (k + 1) (vp_updL (wFill (M.2.1 (k + 1)) 0 64 0) (s / 64) ((1 : Int64) <<< ((nI (s % 64)).toInt64 &&& 63)))) 0 [(0, wm_r G (k)), (1, .int (nI (s)))] [] (M)
  refine wa_aload_n dX3_only_0 rfl 0 rfl ?_
  refine wa_cVv (m_clear k hk) vX3_clear iX3_only_1 (hk.1) rfl rfl rfl (Nat.le_of_ble_eq_true rfl) ⟨by decide, by decide⟩ ?_
  refine wa_iload_n dX3_only_4 rfl 1 rfl ?_
  refine wa_if_ltN (a := s) 30 dX3_only_5 (by decide) (by omega) (fun c_5 => absurd c_5 (Nat.not_lt_zero _)) (fun c_5 => ?_)
  refine wa_iload_n dX3_only_8 rfl 1 rfl ?_
  refine wa_sipush (4096) dX3_only_9 (by decide) ?_
  refine wa_icmp_geN (a := s) (b := 4096) 30 dX3_only_12 (by decide) (by omega) (by omega) (fun c_12 => absurd c_12 (by omega)) (fun c_12 => ?_)
  refine wa_aload_n dX3_only_15 rfl 0 rfl ?_
  refine wa_getr gX3_only_16 (hk.1) rfl ?_
  refine wa_iload_n dX3_only_19 rfl 1 rfl ?_
  refine wa_bipush (6) dX3_only_20 (by decide) ?_
  refine wa_ishr dX3_only_22 ?_
  refine wa_eqi (y := (nI (s / 64))) (nI_shr6 (by omega)) ?_
  refine wa_lconst (1) dX3_only_23 (by decide) ?_
  refine wa_iload_n dX3_only_24 rfl 1 rfl ?_
  refine wa_bipush (63) dX3_only_25 (by decide) ?_
  refine wa_iand dX3_only_27 ?_
  refine wa_eqi (y := (nI (s % 64))) (nI_and63 (by omega)) ?_
  refine wa_lshl dX3_only_28 ?_
  refine wa_lastN (e := s / 64) dX3_only_29 (hk.2) (by omega) (by omega) ?_
  refine wa_eqm (M' := wJa M (k + 1) (vp_updL (wFill (M.2.1 (k + 1)) 0 64 0) (s / 64) ((1 : Int64) <<< ((nI (s % 64)).toInt64 &&& 63)))) (wJ_wJa) ?_
  exact wa_vret dX3_only_30 rfl ⟨rfl, rfl⟩

theorem m_shas {G : wm_G} {M : wm_M} (k : Nat) (hk : SS k) (s : Nat) (hs : s < 4096) : MD G t_X3_has [wm_r G (k), .int (nI (s))] (M) (some (.int (wB (sb (M.2.1 (k + 1)) s)))) (M) := by
  refine wm_met (by decide) (Nat.le_of_ble_eq_true rfl) ?_
  show WA G t_X3_has (fun v_ N_ => v_ = some (.int (wB (sb (M.2.1 (k + 1)) s))) ∧ N_ = M) 0 [(0, wm_r G (k)), (1, .int (nI (s)))] [] (M)
  refine wa_iload_n dX3_has_0 rfl 1 rfl ?_
  refine wa_if_ltN (a := s) 36 dX3_has_1 (by decide) (by omega) (fun c_1 => absurd c_1 (Nat.not_lt_zero _)) (fun c_1 => ?_)
  refine wa_iload_n dX3_has_4 rfl 1 rfl ?_
  refine wa_sipush (4096) dX3_has_5 (by decide) ?_
  refine wa_icmp_geN (a := s) (b := 4096) 36 dX3_has_8 (by decide) (by omega) (by omega) (fun c_8 => absurd c_8 (by omega)) (fun c_8 => ?_)
  refine wa_aload_n dX3_has_11 rfl 0 rfl ?_
  refine wa_getr gX3_has_12 (hk.1) rfl ?_
  refine wa_iload_n dX3_has_15 rfl 1 rfl ?_
  refine wa_bipush (6) dX3_has_16 (by decide) ?_
  refine wa_ishr dX3_has_18 ?_
  refine wa_eqi (y := (nI (s / 64))) (nI_shr6 (by omega)) ?_
  refine wa_laldN (e := s / 64) dX3_has_19 (hk.2) (by omega) (by omega) ?_
  refine wa_iload_n dX3_has_20 rfl 1 rfl ?_
  refine wa_bipush (63) dX3_has_21 (by decide) ?_
  refine wa_iand dX3_has_23 ?_
  refine wa_eqi (y := (nI (s % 64))) (nI_and63 (by omega)) ?_
  refine wa_lushr dX3_has_24 ?_
  refine wa_lconst (1) dX3_has_25 (by decide) ?_
  refine wa_land dX3_has_26 ?_
  refine wa_lconst (1) dX3_has_27 (by decide) ?_
  refine wa_lcmp dX3_has_28 ?_
  refine wa_if_ne 36 dX3_has_29 (by decide) (fun c_29 => ?_) (fun c_29 => ?_)
  · refine wa_iconst (0) dX3_has_36 (by decide) ?_
    exact wa_zret dX3_has_37 rfl (by decide) ⟨congrArg (fun z => some (Value.int z)) (by first | (rw [show sb (M.2.1 (k + 1)) s = true from (lb_test (Nat.mod_lt _ (by decide)) _).mp c_29]; rfl) | (rw [show sb (M.2.1 (k + 1)) s = false from Bool.eq_false_iff.mpr (fun q => c_29 ((lb_test (Nat.mod_lt _ (by decide)) _).mpr q))]; rfl)), rfl⟩
  · refine wa_iconst (1) dX3_has_32 (by decide) ?_
    refine wa_goto 37 dX3_has_33 (by decide) ?_
    exact wa_zret dX3_has_37 rfl (by decide) ⟨congrArg (fun z => some (Value.int z)) (by first | (rw [show sb (M.2.1 (k + 1)) s = true from (lb_test (Nat.mod_lt _ (by decide)) _).mp c_29]; rfl) | (rw [show sb (M.2.1 (k + 1)) s = false from Bool.eq_false_iff.mpr (fun q => c_29 ((lb_test (Nat.mod_lt _ (by decide)) _).mpr q))]; rfl)), rfl⟩

theorem m_isEmpty {G : wm_G} {M : wm_M} (k : Nat) (hk : SS k) : MD G t_X3_isEmpty [wm_r G (k)] (M) (some (.int (wB (wAll (fun s => !sb (M.2.1 (k + 1)) s) 4096)))) (M) := by
  refine wm_met (by decide) (Nat.le_of_ble_eq_true rfl) ?_
  show WA G t_X3_isEmpty (fun v_ N_ => v_ = some (.int (wB (wAll (fun s => !sb (M.2.1 (k + 1)) s) 4096))) ∧ N_ = M) 0 [(0, wm_r G (k))] [] (M)
  refine wa_iconst (0) dX3_isEmpty_0 (by decide) ?_
  refine wa_istore_n [(1, .int (0)), (0, wm_r G (k))] dX3_isEmpty_1 rfl (by decide) rfl ?_
  have L_2 : ∀ (n_ : Nat) (i : Nat), (64 - i) < n_ → (i ≤ 64) → (∀ j, j < i → (M.2.1 (k + 1)) j = 0) → WA G t_X3_isEmpty (fun v_ N_ => v_ = some (.int (wB (wAll (fun s => !sb (M.2.1 (k + 1)) s) 4096))) ∧ N_ = M) 2 [(1, .int (nI (i))), (0, wm_r G (k))] [] (M) := by
    intro n_
    induction n_ with
    | zero => intro i h_; exact absurd h_ (Nat.not_lt_zero _)
    | succ n_ ih_2 =>
      intro i h_ hi hn
      refine wa_iload_n dX3_isEmpty_2 rfl 0 rfl ?_
      refine wa_bipush (64) dX3_isEmpty_3 (by decide) ?_
      refine wa_icmp_geN (a := i) (b := 64) 27 dX3_isEmpty_5 (by decide) (by omega) (by omega) (fun c_5 => ?_) (fun c_5 => ?_)
      · refine wa_iconst (1) dX3_isEmpty_27 (by decide) ?_
        exact wa_zret dX3_isEmpty_28 rfl (by decide) ⟨congrArg (fun z => some (Value.int z)) (by rw [empty_t (fun j hj => hn j (by omega))]; rfl), rfl⟩
      · refine wa_aload_n dX3_isEmpty_8 rfl 1 rfl ?_
        refine wa_getr gX3_isEmpty_9 (hk.1) rfl ?_
        refine wa_iload_n dX3_isEmpty_12 rfl 0 rfl ?_
        refine wa_laldN (e := i) dX3_isEmpty_13 (hk.2) (by omega) (by omega) ?_
        refine wa_lconst (0) dX3_isEmpty_14 (by decide) ?_
        refine wa_lcmp dX3_isEmpty_15 ?_
        refine wa_if_eq 21 dX3_isEmpty_16 (by decide) (fun c_16 => ?_) (fun c_16 => ?_)
        · refine wa_iinc ((nI (i + 1))) [(1, .int (nI (i + 1))), (0, wm_r G (k))] dX3_isEmpty_21 0 rfl (nI_inc _) (by decide) rfl ?_
          refine wa_goto 2 dX3_isEmpty_24 (by decide) ?_
          exact ih_2 (i + 1) (by omega) (by omega) (fun j hj => by rcases Nat.lt_or_eq_of_le (Nat.le_of_lt_succ hj) with q | q; exact hn j q; subst q; exact (lg_cmp00 _).mp c_16)
        · refine wa_iconst (0) dX3_isEmpty_19 (by decide) ?_
          exact wa_zret dX3_isEmpty_20 rfl (by decide) ⟨congrArg (fun z => some (Value.int z)) (by rw [empty_f c_5 (fun q => c_16 ((lg_cmp00 _).mpr q))]; rfl), rfl⟩
  exact L_2 _ 0 (Nat.lt_succ_self _) (by omega) (fun j hj => absurd hj (Nat.not_lt_zero _))

theorem m_isWithin {G : wm_G} {M : wm_M} (k k2 : Nat) (hk : SS k) (hk2 : SS k2) : MD G t_X3_isWithin [wm_r G (k), wm_r G (k2)] (M) (some (.int (wB (wAll (fun s => !sb (M.2.1 (k + 1)) s || sb (M.2.1 (k2 + 1)) s) 4096)))) (M) := by
  refine wm_met (by decide) (Nat.le_of_ble_eq_true rfl) ?_
  show WA G t_X3_isWithin (fun v_ N_ => v_ = some (.int (wB (wAll (fun s => !sb (M.2.1 (k + 1)) s || sb (M.2.1 (k2 + 1)) s) 4096))) ∧ N_ = M) 0 [(0, wm_r G (k)), (1, wm_r G (k2))] [] (M)
  refine wa_iconst (0) dX3_isWithin_0 (by decide) ?_
  refine wa_istore_n [(2, .int (0)), (0, wm_r G (k)), (1, wm_r G (k2))] dX3_isWithin_1 rfl (by decide) rfl ?_
  have L_2 : ∀ (n_ : Nat) (i : Nat), (64 - i) < n_ → (i ≤ 64) → (∀ j, j < i → (M.2.1 (k + 1)) j &&& ((M.2.1 (k2 + 1)) j ^^^ -1) = 0) → WA G t_X3_isWithin (fun v_ N_ => v_ = some (.int (wB (wAll (fun s => !sb (M.2.1 (k + 1)) s || sb (M.2.1 (k2 + 1)) s) 4096))) ∧ N_ = M) 2 [(2, .int (nI (i))), (0, wm_r G (k)), (1, wm_r G (k2))] [] (M) := by
    intro n_
    induction n_ with
    | zero => intro i h_; exact absurd h_ (Nat.not_lt_zero _)
    | succ n_ ih_2 =>
      intro i h_ hi hn
      refine wa_iload_n dX3_isWithin_2 rfl 0 rfl ?_
      refine wa_bipush (64) dX3_isWithin_3 (by decide) ?_
      refine wa_icmp_geN (a := i) (b := 64) 38 dX3_isWithin_5 (by decide) (by omega) (by omega) (fun c_5 => ?_) (fun c_5 => ?_)
      · refine wa_iconst (1) dX3_isWithin_38 (by decide) ?_
        exact wa_zret dX3_isWithin_39 rfl (by decide) ⟨congrArg (fun z => some (Value.int z)) (by rw [within_t (fun j hj => hn j (by omega))]; rfl), rfl⟩
      · refine wa_aload_n dX3_isWithin_8 rfl 1 rfl ?_
        refine wa_getr gX3_isWithin_9 (hk.1) rfl ?_
        refine wa_iload_n dX3_isWithin_12 rfl 0 rfl ?_
        refine wa_laldN (e := i) dX3_isWithin_13 (hk.2) (by omega) (by omega) ?_
        refine wa_aload_n dX3_isWithin_14 rfl 2 rfl ?_
        refine wa_getr gX3_isWithin_15 (hk2.1) rfl ?_
        refine wa_iload_n dX3_isWithin_18 rfl 0 rfl ?_
        refine wa_laldN (e := i) dX3_isWithin_19 (hk2.2) (by omega) (by omega) ?_
        refine wa_ldc2 (-1) dX3_isWithin_20 kX3_isWithin_20 ?_
        refine wa_lxor dX3_isWithin_23 ?_
        refine wa_land dX3_isWithin_24 ?_
        refine wa_lconst (0) dX3_isWithin_25 (by decide) ?_
        refine wa_lcmp dX3_isWithin_26 ?_
        refine wa_if_eq 32 dX3_isWithin_27 (by decide) (fun c_27 => ?_) (fun c_27 => ?_)
        · refine wa_iinc ((nI (i + 1))) [(2, .int (nI (i + 1))), (0, wm_r G (k)), (1, wm_r G (k2))] dX3_isWithin_32 0 rfl (nI_inc _) (by decide) rfl ?_
          refine wa_goto 2 dX3_isWithin_35 (by decide) ?_
          exact ih_2 (i + 1) (by omega) (by omega) (fun j hj => by rcases Nat.lt_or_eq_of_le (Nat.le_of_lt_succ hj) with q | q; exact hn j q; subst q; exact (lg_cmp00 _).mp c_27)
        · refine wa_iconst (0) dX3_isWithin_30 (by decide) ?_
          exact wa_zret dX3_isWithin_31 rfl (by decide) ⟨congrArg (fun z => some (Value.int z)) (by rw [within_f c_5 (fun q => c_27 ((lg_cmp00 _).mpr q))]; rfl), rfl⟩
  exact L_2 _ 0 (Nat.lt_succ_self _) (by omega) (fun j hj => absurd hj (Nat.not_lt_zero _))

theorem m_leastWith {G : wm_G} {M : wm_M} (k k2 : Nat) (hk : SS k) (hk2 : SS k2) : MD G t_X3_leastWith [wm_r G (k), wm_r G (k2)] (M) (some (.int (wFind (fun s => sb (M.2.1 (k + 1)) s && sb (M.2.1 (k2 + 1)) s) 4096))) (M) := by
  refine wm_met (by decide) (Nat.le_of_ble_eq_true rfl) ?_
  show WA G t_X3_leastWith (fun v_ N_ => v_ = some (.int (wFind (fun s => sb (M.2.1 (k + 1)) s && sb (M.2.1 (k2 + 1)) s) 4096)) ∧ N_ = M) 0 [(0, wm_r G (k)), (1, wm_r G (k2))] [] (M)
  refine wa_iconst (0) dX3_leastWith_0 (by decide) ?_
  refine wa_istore_n [(2, .int (0)), (0, wm_r G (k)), (1, wm_r G (k2))] dX3_leastWith_1 rfl (by decide) rfl ?_
  have L_2 : ∀ (n_ : Nat) (i : Nat), (64 - i) < n_ → (i ≤ 64) → (∀ s, s < 64 * i → (fun s => sb (M.2.1 (k + 1)) s && sb (M.2.1 (k2 + 1)) s) s = false) → WA G t_X3_leastWith (fun v_ N_ => v_ = some (.int (wFind (fun s => sb (M.2.1 (k + 1)) s && sb (M.2.1 (k2 + 1)) s) 4096)) ∧ N_ = M) 2 [(2, .int (nI (i))), (0, wm_r G (k)), (1, wm_r G (k2))] [] (M) := by
    intro n_
    induction n_ with
    | zero => intro i h_; exact absurd h_ (Nat.not_lt_zero _)
    | succ n_ ih_2 =>
      intro i h_ hi hn
      refine wa_iload_n dX3_leastWith_2 rfl 0 rfl ?_
      refine wa_bipush (64) dX3_leastWith_3 (by decide) ?_
      refine wa_icmp_geN (a := i) (b := 64) 52 dX3_leastWith_5 (by decide) (by omega) (by omega) (fun c_5 => ?_) (fun c_5 => ?_)
      · refine wa_bipush (-9) dX3_leastWith_52 (by decide) ?_
        exact wa_iret dX3_leastWith_54 rfl ⟨congrArg (fun z => some (Value.int z)) ((wFind_none (fun s hs => hn s (by omega))).symm), rfl⟩
      · refine wa_aload_n dX3_leastWith_8 rfl 1 rfl ?_
        refine wa_getr gX3_leastWith_9 (hk.1) rfl ?_
        refine wa_iload_n dX3_leastWith_12 rfl 0 rfl ?_
        refine wa_laldN (e := i) dX3_leastWith_13 (hk.2) (by omega) (by omega) ?_
        refine wa_aload_n dX3_leastWith_14 rfl 2 rfl ?_
        refine wa_getr gX3_leastWith_15 (hk2.1) rfl ?_
        refine wa_iload_n dX3_leastWith_18 rfl 0 rfl ?_
        refine wa_laldN (e := i) dX3_leastWith_19 (hk2.2) (by omega) (by omega) ?_
        refine wa_land dX3_leastWith_20 ?_
        refine wa_topl (fun x e_x => ?_)
        refine wa_lstore_n [(3, .long (x)), (2, .int (nI (i))), (0, wm_r G (k)), (1, wm_r G (k2))] dX3_leastWith_21 rfl (by decide) rfl ?_
        refine wa_lload_n dX3_leastWith_22 rfl 0 rfl ?_
        refine wa_lconst (0) dX3_leastWith_23 (by decide) ?_
        refine wa_lcmp dX3_leastWith_24 ?_
        refine wa_if_eq 46 dX3_leastWith_25 (by decide) (fun c_25 => ?_) (fun c_25 => ?_)
        · refine wa_iinc ((nI (i + 1))) [(2, .int (nI (i + 1))), (3, .long (x)), (0, wm_r G (k)), (1, wm_r G (k2))] dX3_leastWith_46 1 rfl (nI_inc _) (by decide) rfl ?_
          refine wa_goto 2 dX3_leastWith_49 (by decide) ?_
          refine wa_sub [0, 2, 3] rfl ?_
          exact ih_2 (i + 1) (by omega) (by omega) (fun s hs => by by_cases q : s < 64 * i; exact hn s q; exact both_0 e_x ((lg_cmp00 _).mp c_25) (by omega))
        · obtain ⟨tt, ht, htt, hlt⟩ := lb_first (fun q => c_25 ((lg_cmp00 _).mpr q))
          refine wa_bipush (64) dX3_leastWith_28 (by decide) ?_
          refine wa_iload_n dX3_leastWith_30 rfl 1 rfl ?_
          refine wa_imulN (a := 64) (b := i) dX3_leastWith_31 ?_
          refine wa_lload_n dX3_leastWith_32 rfl 0 rfl ?_
          refine wa_lconst (1) dX3_leastWith_33 (by decide) ?_
          refine wa_lsub dX3_leastWith_34 ?_
          refine wa_lload_n dX3_leastWith_35 rfl 0 rfl ?_
          refine wa_ldc2 (-1) dX3_leastWith_36 kX3_leastWith_36 ?_
          refine wa_lxor dX3_leastWith_39 ?_
          refine wa_land dX3_leastWith_40 ?_
          refine wa_eql (y := lN (2 ^ tt - 1)) (lb_low ht htt hlt) ?_
          refine wa_cSi (m_bitCountL (lN (2 ^ tt - 1))) vJ13_bitCount_95d88 iX3_leastWith_41 rfl rfl (Nat.le_of_ble_eq_true rfl) ⟨by decide, by decide⟩ ?_
          refine wa_eqi (y := (nI (tt))) (bcL_low tt ht) ?_
          refine wa_iaddN (a := 64 * i) (b := tt) dX3_leastWith_44 ?_
          exact wa_iret dX3_leastWith_45 rfl ⟨congrArg (fun z => some (Value.int z)) ((wFind_both e_x ht htt hlt c_5 hn).symm), rfl⟩
  exact L_2 _ 0 (Nat.lt_succ_self _) (by omega) (fun j hj => absurd hj (by omega))

theorem m_meets {G : wm_G} {M : wm_M} (k k2 : Nat) (hk : SS k) (hk2 : SS k2) : MD G t_X3_meets [wm_r G (k), wm_r G (k2)] (M) (some (.int (wB (!decide (wFind (fun s => sb (M.2.1 (k + 1)) s && sb (M.2.1 (k2 + 1)) s) 4096 = -9))))) (M) := by
  refine wm_met (by decide) (Nat.le_of_ble_eq_true rfl) ?_
  show WA G t_X3_meets (fun v_ N_ => v_ = some (.int (wB (!decide (wFind (fun s => sb (M.2.1 (k + 1)) s && sb (M.2.1 (k2 + 1)) s) 4096 = -9)))) ∧ N_ = M) 0 [(0, wm_r G (k)), (1, wm_r G (k2))] [] (M)
  refine wa_aload_n dX3_meets_0 rfl 0 rfl ?_
  refine wa_aload_n dX3_meets_1 rfl 1 rfl ?_
  refine wa_cVi (m_leastWith k k2 hk hk2) vX3_leastWith iX3_meets_2 (hk.1) rfl rfl rfl (Nat.le_of_ble_eq_true rfl) ⟨by decide, by decide⟩ ?_
  refine wa_bipush (-9) dX3_meets_5 (by decide) ?_
  refine wa_icmp_eq 14 dX3_meets_7 (by decide) (fun c_7 => ?_) (fun c_7 => ?_)
  · refine wa_iconst (0) dX3_meets_14 (by decide) ?_
    exact wa_zret dX3_meets_15 rfl (by decide) ⟨congrArg (fun z => some (Value.int z)) (by simp [c_7, wB]), rfl⟩
  · refine wa_iconst (1) dX3_meets_10 (by decide) ?_
    refine wa_goto 15 dX3_meets_11 (by decide) ?_
    exact wa_zret dX3_meets_15 rfl (by decide) ⟨congrArg (fun z => some (Value.int z)) (by simp [c_7, wB]), rfl⟩

theorem m_meet {G : wm_G} {M : wm_M} (k k2 : Nat) (hk : SS k) (hk2 : SS k2) (hne : k ≠ k2) : MD G t_X3_meet [wm_r G (k), wm_r G (k2)] (M) (none) (wJa M (k + 1) (wTo (fun i => (M.2.1 (k + 1)) i &&& (M.2.1 (k2 + 1)) i) (M.2.1 (k + 1)) 64)) := by
  refine wm_met (by decide) (Nat.le_of_ble_eq_true rfl) ?_
  show WA G t_X3_meet (fun v_ N_ => v_ = none ∧ N_ = wJa M (k + 1) (wTo (fun i => (M.2.1 (k + 1)) i &&& (M.2.1 (k2 + 1)) i) (M.2.1 (k + 1)) 64)) 0 [(0, wm_r G (k)), (1, wm_r G (k2))] [] (M)
  refine wa_iconst (0) dX3_meet_0 (by decide) ?_
  refine wa_istore_n [(2, .int (0)), (0, wm_r G (k)), (1, wm_r G (k2))] dX3_meet_1 rfl (by decide) rfl ?_
  have L_2 : ∀ (n_ : Nat) (i : Nat), (64 - i) < n_ → (i ≤ 64) → WA G t_X3_meet (fun v_ N_ => v_ = none ∧ N_ = wJa M (k + 1) (wTo (fun i => (M.2.1 (k + 1)) i &&& (M.2.1 (k2 + 1)) i) (M.2.1 (k + 1)) 64)) 2 [(2, .int (nI (i))), (0, wm_r G (k)), (1, wm_r G (k2))] [] (wJa M (k + 1) (wTo (fun i => (M.2.1 (k + 1)) i &&& (M.2.1 (k2 + 1)) i) (M.2.1 (k + 1)) i)) := by
    intro n_
    induction n_ with
    | zero => intro i h_; exact absurd h_ (Nat.not_lt_zero _)
    | succ n_ ih_2 =>
      intro i h_ hi
      refine wa_iload_n dX3_meet_2 rfl 0 rfl ?_
      refine wa_bipush (64) dX3_meet_3 (by decide) ?_
      refine wa_icmp_geN (a := i) (b := 64) 29 dX3_meet_5 (by decide) (by omega) (by omega) (fun c_5 => ?_) (fun c_5 => ?_)
      · exact wa_vret dX3_meet_29 rfl ⟨rfl, by rw [show i = 64 by omega]⟩
      · refine wa_aload_n dX3_meet_8 rfl 1 rfl ?_
        refine wa_getr gX3_meet_9 (hk.1) rfl ?_
        refine wa_iload_n dX3_meet_12 rfl 0 rfl ?_
        refine wa_dup2_11 dX3_meet_13 rfl rfl ?_
        refine wa_laldN (e := i) dX3_meet_14 (hk.2) (by omega) (by omega) ?_
        refine wa_eql (y := (M.2.1 (k + 1)) i) (by rw [wJa_s, wTo_out (Nat.le_refl _)]) ?_
        refine wa_aload_n dX3_meet_15 rfl 2 rfl ?_
        refine wa_getr gX3_meet_16 (hk2.1) rfl ?_
        refine wa_iload_n dX3_meet_19 rfl 0 rfl ?_
        refine wa_laldN (e := i) dX3_meet_20 (hk2.2) (by omega) (by omega) ?_
        refine wa_eql (y := (M.2.1 (k2 + 1)) i) (by rw [wJa_n (by omega)]) ?_
        refine wa_land dX3_meet_21 ?_
        refine wa_lastN (e := i) dX3_meet_22 (hk.2) (by omega) (by omega) ?_
        refine wa_eqm (M' := wJa M (k + 1) (wTo (fun i => (M.2.1 (k + 1)) i &&& (M.2.1 (k2 + 1)) i) (M.2.1 (k + 1)) (i + 1))) (by rw [wJ_wJa, wTo_sL rfl]) ?_
        refine wa_iinc ((nI (i + 1))) [(2, .int (nI (i + 1))), (0, wm_r G (k)), (1, wm_r G (k2))] dX3_meet_23 0 rfl (nI_inc _) (by decide) rfl ?_
        refine wa_goto 2 dX3_meet_26 (by decide) ?_
        exact ih_2 (i + 1) (by omega) (by omega)
  refine wa_eqm (M' := wJa M (k + 1) (wTo (fun i => (M.2.1 (k + 1)) i &&& (M.2.1 (k2 + 1)) i) (M.2.1 (k + 1)) 0)) (by rw [wTo_0, wJa_self]) ?_
  exact L_2 _ 0 (Nat.lt_succ_self _) (by omega)

theorem m_ssize {G : wm_G} {M : wm_M} (k : Nat) (hk : SS k) : MD G t_X3_size [wm_r G (k)] (M) (some (.int (nI (wSum (fun i => (bcL ((M.2.1 (k + 1)) i)).toNatClampNeg) 64)))) (M) := by
  refine wm_met (by decide) (Nat.le_of_ble_eq_true rfl) ?_
  show WA G t_X3_size (fun v_ N_ => v_ = some (.int (nI (wSum (fun i => (bcL ((M.2.1 (k + 1)) i)).toNatClampNeg) 64))) ∧ N_ = M) 0 [(0, wm_r G (k))] [] (M)
  refine wa_iconst (0) dX3_size_0 (by decide) ?_
  refine wa_istore_n [(1, .int (0)), (0, wm_r G (k))] dX3_size_1 rfl (by decide) rfl ?_
  refine wa_iconst (0) dX3_size_2 (by decide) ?_
  refine wa_istore_n [(2, .int (0)), (1, .int (0)), (0, wm_r G (k))] dX3_size_3 rfl (by decide) rfl ?_
  have L_4 : ∀ (n_ : Nat) (i c : Nat), (64 - i) < n_ → (i ≤ 64) → (c = wSum (fun i => (bcL ((M.2.1 (k + 1)) i)).toNatClampNeg) i) → WA G t_X3_size (fun v_ N_ => v_ = some (.int (nI (wSum (fun i => (bcL ((M.2.1 (k + 1)) i)).toNatClampNeg) 64))) ∧ N_ = M) 4 [(2, .int (nI (i))), (1, .int (nI (c))), (0, wm_r G (k))] [] (M) := by
    intro n_
    induction n_ with
    | zero => intro i c h_; exact absurd h_ (Nat.not_lt_zero _)
    | succ n_ ih_4 =>
      intro i c h_ hi hc
      refine wa_iload_n dX3_size_4 rfl 0 rfl ?_
      refine wa_bipush (64) dX3_size_5 (by decide) ?_
      refine wa_icmp_geN (a := i) (b := 64) 28 dX3_size_7 (by decide) (by omega) (by omega) (fun c_7 => ?_) (fun c_7 => ?_)
      · refine wa_iload_n dX3_size_28 rfl 1 rfl ?_
        exact wa_iret dX3_size_29 rfl ⟨congrArg (fun z => some (Value.int z)) (by rw [hc, show i = 64 by omega]), rfl⟩
      · refine wa_iload_n dX3_size_10 rfl 1 rfl ?_
        refine wa_aload_n dX3_size_11 rfl 2 rfl ?_
        refine wa_getr gX3_size_12 (hk.1) rfl ?_
        refine wa_iload_n dX3_size_15 rfl 0 rfl ?_
        refine wa_laldN (e := i) dX3_size_16 (hk.2) (by omega) (by omega) ?_
        refine wa_cSi (m_bitCountL ((M.2.1 (k + 1)) i)) vJ13_bitCount_95d88 iX3_size_17 rfl rfl (Nat.le_of_ble_eq_true rfl) ⟨by decide, by decide⟩ ?_
        refine wa_eqi (y := (nI ((bcL ((M.2.1 (k + 1)) i)).toNatClampNeg))) (bcL_nI _) ?_
        refine wa_iaddN (a := c) (b := (bcL ((M.2.1 (k + 1)) i)).toNatClampNeg) dX3_size_20 ?_
        refine wa_istore_n [(1, .int (nI (c + ((bcL ((M.2.1 (k + 1)) i)).toNatClampNeg)))), (2, .int (nI (i))), (0, wm_r G (k))] dX3_size_21 rfl (by decide) rfl ?_
        refine wa_iinc ((nI (i + 1))) [(2, .int (nI (i + 1))), (1, .int (nI (c + ((bcL ((M.2.1 (k + 1)) i)).toNatClampNeg)))), (0, wm_r G (k))] dX3_size_22 1 rfl (nI_inc _) (by decide) rfl ?_
        refine wa_goto 4 dX3_size_25 (by decide) ?_
        exact ih_4 (i + 1) _ (by omega) (by omega) (by rw [hc]; rfl)
  exact L_4 _ 0 0 (Nat.lt_succ_self _) (by omega) rfl
