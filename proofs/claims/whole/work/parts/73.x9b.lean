theorem c_copy_bad1 {G : wm_G} {M : wm_M} (r : Int32) (hr : wIn r 6 = false) (to : Int32) (i j n : Int32) : MD G t_X9_copy [wm_r G (0), .int (r), .int (i), .int (to), .int (j), .int (n)] (M) (some (.int (-1))) (M) := by
  refine wm_met (by decide) (Nat.le_of_ble_eq_true rfl) ?_
  show WA G t_X9_copy (fun v_ N_ => v_ = some (.int (-1)) ∧ N_ = M) 0 [(0, wm_r G (0)), (1, .int (r)), (2, .int (i)), (3, .int (to)), (4, .int (j)), (5, .int (n))] [] (M)
  refine wa_aload_n dX9_copy_0 rfl 0 rfl ?_
  refine wa_getr gX9_copy_1 (rfl) rfl ?_
  refine wa_iload_n dX9_copy_4 rfl 1 rfl ?_
  refine wa_cVi (m_knows 1 6 60 TB_rows r) vX5_knows iX9_copy_5 (rfl) rfl rfl rfl (Nat.le_of_ble_eq_true rfl) ⟨by decide, by decide⟩ ?_
  refine wa_eqi (y := (0)) (by rw [hr]; rfl) ?_
  refine wa_if_eq 22 dX9_copy_8 (by decide) (fun c_8 => ?_) (fun c_8 => absurd c_8 (by decide))
  refine wa_iconst (-1) dX9_copy_22 (by decide) ?_
  exact wa_iret dX9_copy_23 rfl ⟨congrArg (fun z => some (Value.int z)) (rfl), rfl⟩

theorem c_copy_bad2 {G : wm_G} {M : wm_M} (r : Nat) (hr2 : r < 6) (to : Int32) (hr : wIn to 6 = false) (i j n : Int32) : MD G t_X9_copy [wm_r G (0), .int (nI (r)), .int (i), .int (to), .int (j), .int (n)] (M) (some (.int (-1))) (M) := by
  refine wm_met (by decide) (Nat.le_of_ble_eq_true rfl) ?_
  show WA G t_X9_copy (fun v_ N_ => v_ = some (.int (-1)) ∧ N_ = M) 0 [(0, wm_r G (0)), (1, .int (nI (r))), (2, .int (i)), (3, .int (to)), (4, .int (j)), (5, .int (n))] [] (M)
  refine wa_aload_n dX9_copy_0 rfl 0 rfl ?_
  refine wa_getr gX9_copy_1 (rfl) rfl ?_
  refine wa_iload_n dX9_copy_4 rfl 1 rfl ?_
  refine wa_cVi (m_knowsN 1 6 60 TB_rows r hr2) vX5_knows iX9_copy_5 (rfl) rfl rfl rfl (Nat.le_of_ble_eq_true rfl) ⟨by decide, by decide⟩ ?_
  refine wa_if_eq 22 dX9_copy_8 (by decide) (fun c_8 => absurd c_8 (by decide)) (fun c_8 => ?_)
  refine wa_aload_n dX9_copy_11 rfl 0 rfl ?_
  refine wa_getr gX9_copy_12 (rfl) rfl ?_
  refine wa_iload_n dX9_copy_15 rfl 3 rfl ?_
  refine wa_cVi (m_knows 1 6 60 TB_rows to) vX5_knows iX9_copy_16 (rfl) rfl rfl rfl (Nat.le_of_ble_eq_true rfl) ⟨by decide, by decide⟩ ?_
  refine wa_eqi (y := (0)) (by rw [hr]; rfl) ?_
  refine wa_if_ne 24 dX9_copy_19 (by decide) (fun c_19 => absurd c_19 (by decide)) (fun c_19 => ?_)
  refine wa_iconst (-1) dX9_copy_22 (by decide) ?_
  exact wa_iret dX9_copy_23 rfl ⟨congrArg (fun z => some (Value.int z)) (rfl), rfl⟩

theorem c_copy_neg {G : wm_G} {M : wm_M} (r to : Nat) (hr : r < 6) (ht : to < 6) (i j n : Int32) (hn : n < 0) : MD G t_X9_copy [wm_r G (0), .int (nI (r)), .int (i), .int (nI (to)), .int (j), .int (n)] (M) (some (.int (-3))) (tNote M 5) := by
  refine wm_met (by decide) (Nat.le_of_ble_eq_true rfl) ?_
  show WA G t_X9_copy (fun v_ N_ => v_ = some (.int (-3)) ∧ N_ = tNote M 5) 0 [(0, wm_r G (0)), (1, .int (nI (r))), (2, .int (i)), (3, .int (nI (to))), (4, .int (j)), (5, .int (n))] [] (M)
  refine wa_aload_n dX9_copy_0 rfl 0 rfl ?_
  refine wa_getr gX9_copy_1 (rfl) rfl ?_
  refine wa_iload_n dX9_copy_4 rfl 1 rfl ?_
  refine wa_cVi (m_knowsN 1 6 60 TB_rows r hr) vX5_knows iX9_copy_5 (rfl) rfl rfl rfl (Nat.le_of_ble_eq_true rfl) ⟨by decide, by decide⟩ ?_
  refine wa_if_eq 22 dX9_copy_8 (by decide) (fun c_8 => absurd c_8 (by decide)) (fun c_8 => ?_)
  refine wa_aload_n dX9_copy_11 rfl 0 rfl ?_
  refine wa_getr gX9_copy_12 (rfl) rfl ?_
  refine wa_iload_n dX9_copy_15 rfl 3 rfl ?_
  refine wa_cVi (m_knowsN 1 6 60 TB_rows to ht) vX5_knows iX9_copy_16 (rfl) rfl rfl rfl (Nat.le_of_ble_eq_true rfl) ⟨by decide, by decide⟩ ?_
  refine wa_if_ne 24 dX9_copy_19 (by decide) (fun c_19 => ?_) (fun c_19 => absurd c_19 (by decide))
  refine wa_iload dX9_copy_24 5 rfl ?_
  refine wa_if_ge 35 dX9_copy_26 (by decide) (fun c_26 => absurd hn (Int32.not_lt.mpr c_26)) (fun c_26 => ?_)
  refine wa_aload_n dX9_copy_29 rfl 0 rfl ?_
  refine wa_iconst (5) dX9_copy_30 (by decide) ?_
  refine wa_cVi (m_find 5 (by decide) (by decide)) vX9_find iX9_copy_31 (rfl) rfl rfl rfl (Nat.le_of_ble_eq_true rfl) ⟨by decide, by decide⟩ ?_
  exact wa_iret dX9_copy_34 rfl ⟨congrArg (fun z => some (Value.int z)) (rfl), rfl⟩

theorem c_copy_no1 {G : wm_G} {M : wm_M} (r to : Nat) (hr : r < 6) (ht : to < 6) (i j n : Int32) (hn : ¬ n < 0) (hz : M.1 9 r = -1) : MD G t_X9_copy [wm_r G (0), .int (nI (r)), .int (i), .int (nI (to)), .int (j), .int (n)] (M) (some (.int (-3))) (tNote M 1) := by
  refine wm_met (by decide) (Nat.le_of_ble_eq_true rfl) ?_
  show WA G t_X9_copy (fun v_ N_ => v_ = some (.int (-3)) ∧ N_ = tNote M 1) 0 [(0, wm_r G (0)), (1, .int (nI (r))), (2, .int (i)), (3, .int (nI (to))), (4, .int (j)), (5, .int (n))] [] (M)
  refine wa_aload_n dX9_copy_0 rfl 0 rfl ?_
  refine wa_getr gX9_copy_1 (rfl) rfl ?_
  refine wa_iload_n dX9_copy_4 rfl 1 rfl ?_
  refine wa_cVi (m_knowsN 1 6 60 TB_rows r hr) vX5_knows iX9_copy_5 (rfl) rfl rfl rfl (Nat.le_of_ble_eq_true rfl) ⟨by decide, by decide⟩ ?_
  refine wa_if_eq 22 dX9_copy_8 (by decide) (fun c_8 => absurd c_8 (by decide)) (fun c_8 => ?_)
  refine wa_aload_n dX9_copy_11 rfl 0 rfl ?_
  refine wa_getr gX9_copy_12 (rfl) rfl ?_
  refine wa_iload_n dX9_copy_15 rfl 3 rfl ?_
  refine wa_cVi (m_knowsN 1 6 60 TB_rows to ht) vX5_knows iX9_copy_16 (rfl) rfl rfl rfl (Nat.le_of_ble_eq_true rfl) ⟨by decide, by decide⟩ ?_
  refine wa_if_ne 24 dX9_copy_19 (by decide) (fun c_19 => ?_) (fun c_19 => absurd c_19 (by decide))
  refine wa_iload dX9_copy_24 5 rfl ?_
  refine wa_if_ge 35 dX9_copy_26 (by decide) (fun c_26 => ?_) (fun c_26 => absurd (Int32.not_lt.mp hn) (Int32.not_le.mpr (Int32.not_le.mp c_26)))
  refine wa_aload_n dX9_copy_35 rfl 0 rfl ?_
  refine wa_getr gX9_copy_36 (rfl) rfl ?_
  refine wa_iload_n dX9_copy_39 rfl 1 rfl ?_
  refine wa_cVi (m_hasN 1 6 60 TB_rows r hr) vX5_has iX9_copy_40 (rfl) rfl rfl rfl (Nat.le_of_ble_eq_true rfl) ⟨by decide, by decide⟩ ?_
  refine wa_eqi (y := (0)) (by rw [hz]; rfl) ?_
  refine wa_if_eq 57 dX9_copy_43 (by decide) (fun c_43 => ?_) (fun c_43 => absurd c_43 (by decide))
  refine wa_aload_n dX9_copy_57 rfl 0 rfl ?_
  refine wa_iconst (1) dX9_copy_58 (by decide) ?_
  refine wa_cVi (m_find 1 (by decide) (by decide)) vX9_find iX9_copy_59 (rfl) rfl rfl rfl (Nat.le_of_ble_eq_true rfl) ⟨by decide, by decide⟩ ?_
  exact wa_iret dX9_copy_62 rfl ⟨congrArg (fun z => some (Value.int z)) (rfl), rfl⟩

theorem c_copy_no2 {G : wm_G} {M : wm_M} (r to : Nat) (hr : r < 6) (ht : to < 6) (i j n : Int32) (hn : ¬ n < 0) (hz2 : ¬ M.1 9 r = -1) (hz : M.1 9 to = -1) : MD G t_X9_copy [wm_r G (0), .int (nI (r)), .int (i), .int (nI (to)), .int (j), .int (n)] (M) (some (.int (-3))) (tNote M 1) := by
  refine wm_met (by decide) (Nat.le_of_ble_eq_true rfl) ?_
  show WA G t_X9_copy (fun v_ N_ => v_ = some (.int (-3)) ∧ N_ = tNote M 1) 0 [(0, wm_r G (0)), (1, .int (nI (r))), (2, .int (i)), (3, .int (nI (to))), (4, .int (j)), (5, .int (n))] [] (M)
  refine wa_aload_n dX9_copy_0 rfl 0 rfl ?_
  refine wa_getr gX9_copy_1 (rfl) rfl ?_
  refine wa_iload_n dX9_copy_4 rfl 1 rfl ?_
  refine wa_cVi (m_knowsN 1 6 60 TB_rows r hr) vX5_knows iX9_copy_5 (rfl) rfl rfl rfl (Nat.le_of_ble_eq_true rfl) ⟨by decide, by decide⟩ ?_
  refine wa_if_eq 22 dX9_copy_8 (by decide) (fun c_8 => absurd c_8 (by decide)) (fun c_8 => ?_)
  refine wa_aload_n dX9_copy_11 rfl 0 rfl ?_
  refine wa_getr gX9_copy_12 (rfl) rfl ?_
  refine wa_iload_n dX9_copy_15 rfl 3 rfl ?_
  refine wa_cVi (m_knowsN 1 6 60 TB_rows to ht) vX5_knows iX9_copy_16 (rfl) rfl rfl rfl (Nat.le_of_ble_eq_true rfl) ⟨by decide, by decide⟩ ?_
  refine wa_if_ne 24 dX9_copy_19 (by decide) (fun c_19 => ?_) (fun c_19 => absurd c_19 (by decide))
  refine wa_iload dX9_copy_24 5 rfl ?_
  refine wa_if_ge 35 dX9_copy_26 (by decide) (fun c_26 => ?_) (fun c_26 => absurd (Int32.not_lt.mp hn) (Int32.not_le.mpr (Int32.not_le.mp c_26)))
  refine wa_aload_n dX9_copy_35 rfl 0 rfl ?_
  refine wa_getr gX9_copy_36 (rfl) rfl ?_
  refine wa_iload_n dX9_copy_39 rfl 1 rfl ?_
  refine wa_cVi (m_hasN 1 6 60 TB_rows r hr) vX5_has iX9_copy_40 (rfl) rfl rfl rfl (Nat.le_of_ble_eq_true rfl) ⟨by decide, by decide⟩ ?_
  refine wa_eqi (y := (1)) (by rw [decide_eq_false hz2]; rfl) ?_
  refine wa_if_eq 57 dX9_copy_43 (by decide) (fun c_43 => absurd c_43 (by decide)) (fun c_43 => ?_)
  refine wa_aload_n dX9_copy_46 rfl 0 rfl ?_
  refine wa_getr gX9_copy_47 (rfl) rfl ?_
  refine wa_iload_n dX9_copy_50 rfl 3 rfl ?_
  refine wa_cVi (m_hasN 1 6 60 TB_rows to ht) vX5_has iX9_copy_51 (rfl) rfl rfl rfl (Nat.le_of_ble_eq_true rfl) ⟨by decide, by decide⟩ ?_
  refine wa_eqi (y := (0)) (by rw [hz]; rfl) ?_
  refine wa_if_ne 63 dX9_copy_54 (by decide) (fun c_54 => absurd c_54 (by decide)) (fun c_54 => ?_)
  refine wa_aload_n dX9_copy_57 rfl 0 rfl ?_
  refine wa_iconst (1) dX9_copy_58 (by decide) ?_
  refine wa_cVi (m_find 1 (by decide) (by decide)) vX9_find iX9_copy_59 (rfl) rfl rfl rfl (Nat.le_of_ble_eq_true rfl) ⟨by decide, by decide⟩ ?_
  exact wa_iret dX9_copy_62 rfl ⟨congrArg (fun z => some (Value.int z)) (rfl), rfl⟩

theorem c_copy_out1 {G : wm_G} {M : wm_M} (r to : Nat) (hr : r < 6) (ht : to < 6) (i j n : Int32) (hn : ¬ n < 0) (z z2 : Nat) (hz : M.1 9 r = nI z) (hz2 : M.1 9 to = nI z2) (hz9 : z ≤ 60) (hz29 : z2 ≤ 60) (hh : hldB i n z = false) : MD G t_X9_copy [wm_r G (0), .int (nI (r)), .int (i), .int (nI (to)), .int (j), .int (n)] (M) (some (.int (-3))) (tNote M 2) := by
  refine wm_met (by decide) (Nat.le_of_ble_eq_true rfl) ?_
  show WA G t_X9_copy (fun v_ N_ => v_ = some (.int (-3)) ∧ N_ = tNote M 2) 0 [(0, wm_r G (0)), (1, .int (nI (r))), (2, .int (i)), (3, .int (nI (to))), (4, .int (j)), (5, .int (n))] [] (M)
  refine wa_aload_n dX9_copy_0 rfl 0 rfl ?_
  refine wa_getr gX9_copy_1 (rfl) rfl ?_
  refine wa_iload_n dX9_copy_4 rfl 1 rfl ?_
  refine wa_cVi (m_knowsN 1 6 60 TB_rows r hr) vX5_knows iX9_copy_5 (rfl) rfl rfl rfl (Nat.le_of_ble_eq_true rfl) ⟨by decide, by decide⟩ ?_
  refine wa_if_eq 22 dX9_copy_8 (by decide) (fun c_8 => absurd c_8 (by decide)) (fun c_8 => ?_)
  refine wa_aload_n dX9_copy_11 rfl 0 rfl ?_
  refine wa_getr gX9_copy_12 (rfl) rfl ?_
  refine wa_iload_n dX9_copy_15 rfl 3 rfl ?_
  refine wa_cVi (m_knowsN 1 6 60 TB_rows to ht) vX5_knows iX9_copy_16 (rfl) rfl rfl rfl (Nat.le_of_ble_eq_true rfl) ⟨by decide, by decide⟩ ?_
  refine wa_if_ne 24 dX9_copy_19 (by decide) (fun c_19 => ?_) (fun c_19 => absurd c_19 (by decide))
  refine wa_iload dX9_copy_24 5 rfl ?_
  refine wa_if_ge 35 dX9_copy_26 (by decide) (fun c_26 => ?_) (fun c_26 => absurd (Int32.not_lt.mp hn) (Int32.not_le.mpr (Int32.not_le.mp c_26)))
  refine wa_aload_n dX9_copy_35 rfl 0 rfl ?_
  refine wa_getr gX9_copy_36 (rfl) rfl ?_
  refine wa_iload_n dX9_copy_39 rfl 1 rfl ?_
  refine wa_cVi (m_hasN 1 6 60 TB_rows r hr) vX5_has iX9_copy_40 (rfl) rfl rfl rfl (Nat.le_of_ble_eq_true rfl) ⟨by decide, by decide⟩ ?_
  refine wa_eqi (y := (1)) (by rw [show M.1 (1 + 2 + 6) r = nI z from hz, decide_eq_false (nI_nem1 (by omega))]; rfl) ?_
  refine wa_if_eq 57 dX9_copy_43 (by decide) (fun c_43 => absurd c_43 (by decide)) (fun c_43 => ?_)
  refine wa_aload_n dX9_copy_46 rfl 0 rfl ?_
  refine wa_getr gX9_copy_47 (rfl) rfl ?_
  refine wa_iload_n dX9_copy_50 rfl 3 rfl ?_
  refine wa_cVi (m_hasN 1 6 60 TB_rows to ht) vX5_has iX9_copy_51 (rfl) rfl rfl rfl (Nat.le_of_ble_eq_true rfl) ⟨by decide, by decide⟩ ?_
  refine wa_eqi (y := (1)) (by rw [show M.1 (1 + 2 + 6) to = nI z2 from hz2, decide_eq_false (nI_nem1 (by omega))]; rfl) ?_
  refine wa_if_ne 63 dX9_copy_54 (by decide) (fun c_54 => ?_) (fun c_54 => absurd c_54 (by decide))
  refine wa_aload_n dX9_copy_63 rfl 0 rfl ?_
  refine wa_getr gX9_copy_64 (rfl) rfl ?_
  refine wa_iload_n dX9_copy_67 rfl 1 rfl ?_
  refine wa_iload_n dX9_copy_68 rfl 2 rfl ?_
  refine wa_iload dX9_copy_69 5 rfl ?_
  refine wa_cVi (m_holds 1 6 60 TB_rows (nI r) i n) vX5_holds iX9_copy_71 (rfl) rfl rfl rfl (Nat.le_of_ble_eq_true rfl) ⟨by decide, by decide⟩ ?_
  refine wa_eqi (y := (0)) (by rw [holdsN_eq hr (by decide) hz]; rw [hh]; rfl) ?_
  refine wa_if_eq 92 dX9_copy_74 (by decide) (fun c_74 => ?_) (fun c_74 => absurd c_74 (by decide))
  refine wa_aload_n dX9_copy_92 rfl 0 rfl ?_
  refine wa_iconst (2) dX9_copy_93 (by decide) ?_
  refine wa_cVi (m_find 2 (by decide) (by decide)) vX9_find iX9_copy_94 (rfl) rfl rfl rfl (Nat.le_of_ble_eq_true rfl) ⟨by decide, by decide⟩ ?_
  exact wa_iret dX9_copy_97 rfl ⟨congrArg (fun z => some (Value.int z)) (rfl), rfl⟩

theorem c_copy_out2 {G : wm_G} {M : wm_M} (r to : Nat) (hr : r < 6) (ht : to < 6) (i j n : Int32) (hn : ¬ n < 0) (z z2 : Nat) (hz : M.1 9 r = nI z) (hz2 : M.1 9 to = nI z2) (hz9 : z ≤ 60) (hz29 : z2 ≤ 60) (hh1 : hldB i n z = true) (hh : hldB j n z2 = false) : MD G t_X9_copy [wm_r G (0), .int (nI (r)), .int (i), .int (nI (to)), .int (j), .int (n)] (M) (some (.int (-3))) (tNote M 2) := by
  refine wm_met (by decide) (Nat.le_of_ble_eq_true rfl) ?_
  show WA G t_X9_copy (fun v_ N_ => v_ = some (.int (-3)) ∧ N_ = tNote M 2) 0 [(0, wm_r G (0)), (1, .int (nI (r))), (2, .int (i)), (3, .int (nI (to))), (4, .int (j)), (5, .int (n))] [] (M)
  refine wa_aload_n dX9_copy_0 rfl 0 rfl ?_
  refine wa_getr gX9_copy_1 (rfl) rfl ?_
  refine wa_iload_n dX9_copy_4 rfl 1 rfl ?_
  refine wa_cVi (m_knowsN 1 6 60 TB_rows r hr) vX5_knows iX9_copy_5 (rfl) rfl rfl rfl (Nat.le_of_ble_eq_true rfl) ⟨by decide, by decide⟩ ?_
  refine wa_if_eq 22 dX9_copy_8 (by decide) (fun c_8 => absurd c_8 (by decide)) (fun c_8 => ?_)
  refine wa_aload_n dX9_copy_11 rfl 0 rfl ?_
  refine wa_getr gX9_copy_12 (rfl) rfl ?_
  refine wa_iload_n dX9_copy_15 rfl 3 rfl ?_
  refine wa_cVi (m_knowsN 1 6 60 TB_rows to ht) vX5_knows iX9_copy_16 (rfl) rfl rfl rfl (Nat.le_of_ble_eq_true rfl) ⟨by decide, by decide⟩ ?_
  refine wa_if_ne 24 dX9_copy_19 (by decide) (fun c_19 => ?_) (fun c_19 => absurd c_19 (by decide))
  refine wa_iload dX9_copy_24 5 rfl ?_
  refine wa_if_ge 35 dX9_copy_26 (by decide) (fun c_26 => ?_) (fun c_26 => absurd (Int32.not_lt.mp hn) (Int32.not_le.mpr (Int32.not_le.mp c_26)))
  refine wa_aload_n dX9_copy_35 rfl 0 rfl ?_
  refine wa_getr gX9_copy_36 (rfl) rfl ?_
  refine wa_iload_n dX9_copy_39 rfl 1 rfl ?_
  refine wa_cVi (m_hasN 1 6 60 TB_rows r hr) vX5_has iX9_copy_40 (rfl) rfl rfl rfl (Nat.le_of_ble_eq_true rfl) ⟨by decide, by decide⟩ ?_
  refine wa_eqi (y := (1)) (by rw [show M.1 (1 + 2 + 6) r = nI z from hz, decide_eq_false (nI_nem1 (by omega))]; rfl) ?_
  refine wa_if_eq 57 dX9_copy_43 (by decide) (fun c_43 => absurd c_43 (by decide)) (fun c_43 => ?_)
  refine wa_aload_n dX9_copy_46 rfl 0 rfl ?_
  refine wa_getr gX9_copy_47 (rfl) rfl ?_
  refine wa_iload_n dX9_copy_50 rfl 3 rfl ?_
  refine wa_cVi (m_hasN 1 6 60 TB_rows to ht) vX5_has iX9_copy_51 (rfl) rfl rfl rfl (Nat.le_of_ble_eq_true rfl) ⟨by decide, by decide⟩ ?_
  refine wa_eqi (y := (1)) (by rw [show M.1 (1 + 2 + 6) to = nI z2 from hz2, decide_eq_false (nI_nem1 (by omega))]; rfl) ?_
  refine wa_if_ne 63 dX9_copy_54 (by decide) (fun c_54 => ?_) (fun c_54 => absurd c_54 (by decide))
  refine wa_aload_n dX9_copy_63 rfl 0 rfl ?_
  refine wa_getr gX9_copy_64 (rfl) rfl ?_
  refine wa_iload_n dX9_copy_67 rfl 1 rfl ?_
  refine wa_iload_n dX9_copy_68 rfl 2 rfl ?_
  refine wa_iload dX9_copy_69 5 rfl ?_
  refine wa_cVi (m_holds 1 6 60 TB_rows (nI r) i n) vX5_holds iX9_copy_71 (rfl) rfl rfl rfl (Nat.le_of_ble_eq_true rfl) ⟨by decide, by decide⟩ ?_
  refine wa_eqi (y := (1)) (by rw [holdsN_eq hr (by decide) hz]; rw [hh1]; rfl) ?_
  refine wa_if_eq 92 dX9_copy_74 (by decide) (fun c_74 => absurd c_74 (by decide)) (fun c_74 => ?_)
  refine wa_aload_n dX9_copy_77 rfl 0 rfl ?_
  refine wa_getr gX9_copy_78 (rfl) rfl ?_
  refine wa_iload_n dX9_copy_81 rfl 3 rfl ?_
  refine wa_iload dX9_copy_82 4 rfl ?_
  refine wa_iload dX9_copy_84 5 rfl ?_
  refine wa_cVi (m_holds 1 6 60 TB_rows (nI to) j n) vX5_holds iX9_copy_86 (rfl) rfl rfl rfl (Nat.le_of_ble_eq_true rfl) ⟨by decide, by decide⟩ ?_
  refine wa_eqi (y := (0)) (by rw [holdsN_eq ht (by decide) hz2]; rw [hh]; rfl) ?_
  refine wa_if_ne 98 dX9_copy_89 (by decide) (fun c_89 => absurd c_89 (by decide)) (fun c_89 => ?_)
  refine wa_aload_n dX9_copy_92 rfl 0 rfl ?_
  refine wa_iconst (2) dX9_copy_93 (by decide) ?_
  refine wa_cVi (m_find 2 (by decide) (by decide)) vX9_find iX9_copy_94 (rfl) rfl rfl rfl (Nat.le_of_ble_eq_true rfl) ⟨by decide, by decide⟩ ?_
  exact wa_iret dX9_copy_97 rfl ⟨congrArg (fun z => some (Value.int z)) (rfl), rfl⟩

theorem c_copy_ok {G : wm_G} {M : wm_M} (r to : Nat) (hr : r < 6) (ht : to < 6) (i j n : Nat) (z z2 : Nat) (hz : M.1 9 r = nI z) (hz2 : M.1 9 to = nI z2) (hz9 : z ≤ 60) (hz29 : z2 ≤ 60) (hi : i + n ≤ z) (hj : j + n ≤ z2) : MD G t_X9_copy [wm_r G (0), .int (nI (r)), .int (nI (i)), .int (nI (to)), .int (nI (j)), .int (nI (n))] (M) (some (.int (1))) (wIa M (3 + to) (va_cpy (M.1 (3 + r)) (M.1 (3 + to)) i j n)) := by
  refine wm_met (by decide) (Nat.le_of_ble_eq_true rfl) ?_
  show WA G t_X9_copy (fun v_ N_ => v_ = some (.int (1)) ∧ N_ = wIa M (3 + to) (va_cpy (M.1 (3 + r)) (M.1 (3 + to)) i j n)) 0 [(0, wm_r G (0)), (1, .int (nI (r))), (2, .int (nI (i))), (3, .int (nI (to))), (4, .int (nI (j))), (5, .int (nI (n)))] [] (M)
  refine wa_aload_n dX9_copy_0 rfl 0 rfl ?_
  refine wa_getr gX9_copy_1 (rfl) rfl ?_
  refine wa_iload_n dX9_copy_4 rfl 1 rfl ?_
  refine wa_cVi (m_knowsN 1 6 60 TB_rows r hr) vX5_knows iX9_copy_5 (rfl) rfl rfl rfl (Nat.le_of_ble_eq_true rfl) ⟨by decide, by decide⟩ ?_
  refine wa_if_eq 22 dX9_copy_8 (by decide) (fun c_8 => absurd c_8 (by decide)) (fun c_8 => ?_)
  refine wa_aload_n dX9_copy_11 rfl 0 rfl ?_
  refine wa_getr gX9_copy_12 (rfl) rfl ?_
  refine wa_iload_n dX9_copy_15 rfl 3 rfl ?_
  refine wa_cVi (m_knowsN 1 6 60 TB_rows to ht) vX5_knows iX9_copy_16 (rfl) rfl rfl rfl (Nat.le_of_ble_eq_true rfl) ⟨by decide, by decide⟩ ?_
  refine wa_if_ne 24 dX9_copy_19 (by decide) (fun c_19 => ?_) (fun c_19 => absurd c_19 (by decide))
  refine wa_iload dX9_copy_24 5 rfl ?_
  refine wa_if_geN (a := n) 35 dX9_copy_26 (by decide) (by omega) (fun c_26 => ?_) (fun c_26 => absurd c_26 (by omega))
  refine wa_aload_n dX9_copy_35 rfl 0 rfl ?_
  refine wa_getr gX9_copy_36 (rfl) rfl ?_
  refine wa_iload_n dX9_copy_39 rfl 1 rfl ?_
  refine wa_cVi (m_hasN 1 6 60 TB_rows r hr) vX5_has iX9_copy_40 (rfl) rfl rfl rfl (Nat.le_of_ble_eq_true rfl) ⟨by decide, by decide⟩ ?_
  refine wa_eqi (y := (1)) (by rw [show M.1 (1 + 2 + 6) r = nI z from hz, decide_eq_false (nI_nem1 (by omega))]; rfl) ?_
  refine wa_if_eq 57 dX9_copy_43 (by decide) (fun c_43 => absurd c_43 (by decide)) (fun c_43 => ?_)
  refine wa_aload_n dX9_copy_46 rfl 0 rfl ?_
  refine wa_getr gX9_copy_47 (rfl) rfl ?_
  refine wa_iload_n dX9_copy_50 rfl 3 rfl ?_
  refine wa_cVi (m_hasN 1 6 60 TB_rows to ht) vX5_has iX9_copy_51 (rfl) rfl rfl rfl (Nat.le_of_ble_eq_true rfl) ⟨by decide, by decide⟩ ?_
  refine wa_eqi (y := (1)) (by rw [show M.1 (1 + 2 + 6) to = nI z2 from hz2, decide_eq_false (nI_nem1 (by omega))]; rfl) ?_
  refine wa_if_ne 63 dX9_copy_54 (by decide) (fun c_54 => ?_) (fun c_54 => absurd c_54 (by decide))
  refine wa_aload_n dX9_copy_63 rfl 0 rfl ?_
  refine wa_getr gX9_copy_64 (rfl) rfl ?_
  refine wa_iload_n dX9_copy_67 rfl 1 rfl ?_
  refine wa_iload_n dX9_copy_68 rfl 2 rfl ?_
  refine wa_iload dX9_copy_69 5 rfl ?_
  refine wa_cVi (m_holds 1 6 60 TB_rows (nI r) (nI i) (nI n)) vX5_holds iX9_copy_71 (rfl) rfl rfl rfl (Nat.le_of_ble_eq_true rfl) ⟨by decide, by decide⟩ ?_
  refine wa_eqi (y := (1)) (by rw [holdsN_eq hr (by decide) hz, hldB_t (by omega) hi]; rfl) ?_
  refine wa_if_eq 92 dX9_copy_74 (by decide) (fun c_74 => absurd c_74 (by decide)) (fun c_74 => ?_)
  refine wa_aload_n dX9_copy_77 rfl 0 rfl ?_
  refine wa_getr gX9_copy_78 (rfl) rfl ?_
  refine wa_iload_n dX9_copy_81 rfl 3 rfl ?_
  refine wa_iload dX9_copy_82 4 rfl ?_
  refine wa_iload dX9_copy_84 5 rfl ?_
  refine wa_cVi (m_holds 1 6 60 TB_rows (nI to) (nI j) (nI n)) vX5_holds iX9_copy_86 (rfl) rfl rfl rfl (Nat.le_of_ble_eq_true rfl) ⟨by decide, by decide⟩ ?_
  refine wa_eqi (y := (1)) (by rw [holdsN_eq ht (by decide) hz2, hldB_t (by omega) hj]; rfl) ?_
  refine wa_if_ne 98 dX9_copy_89 (by decide) (fun c_89 => ?_) (fun c_89 => absurd c_89 (by decide))
  refine wa_aload_n dX9_copy_98 rfl 0 rfl ?_
  refine wa_getr gX9_copy_99 (rfl) rfl ?_
  refine wa_iload_n dX9_copy_102 rfl 1 rfl ?_
  refine wa_iload_n dX9_copy_103 rfl 2 rfl ?_
  refine wa_iload_n dX9_copy_104 rfl 3 rfl ?_
  refine wa_iload dX9_copy_105 4 rfl ?_
  refine wa_iload dX9_copy_107 5 rfl ?_
  refine wa_cVv (m_moveN 1 6 60 TB_rows r i to j n z z2 hr ht hz hz2 hz9 hz29 hi hj) vX5_move iX9_copy_109 (rfl) rfl rfl rfl (Nat.le_of_ble_eq_true rfl) ⟨by decide, by decide⟩ ?_
  refine wa_iconst (1) dX9_copy_112 (by decide) ?_
  exact wa_iret dX9_copy_113 rfl ⟨congrArg (fun z => some (Value.int z)) (rfl), rfl⟩

theorem c_fault_bad {G : wm_G} {M : wm_M} (r : Int32) (hr : wIn r 4 = false) : MD G t_X9_fault [wm_r G (0), .int (r)] (M) (some (.int (-1))) (M) := by
  refine wm_met (by decide) (Nat.le_of_ble_eq_true rfl) ?_
  show WA G t_X9_fault (fun v_ N_ => v_ = some (.int (-1)) ∧ N_ = M) 0 [(0, wm_r G (0)), (1, .int (r))] [] (M)
  refine wa_aload_n dX9_fault_0 rfl 0 rfl ?_
  refine wa_aload_n dX9_fault_1 rfl 0 rfl ?_
  refine wa_getr gX9_fault_2 (rfl) rfl ?_
  refine wa_iload_n dX9_fault_5 rfl 1 rfl ?_
  refine wa_cVi (m_ref_bad 10 4 80 TB_texts r hr) vX9_refusal iX9_fault_6 (rfl) rfl rfl rfl (Nat.le_of_ble_eq_true rfl) ⟨by decide, by decide⟩ ?_
  refine wa_istore_n [(2, .int (-1)), (0, wm_r G (0)), (1, .int (r))] dX9_fault_9 rfl (by decide) rfl ?_
  refine wa_iload_n dX9_fault_10 rfl 0 rfl ?_
  refine wa_if_eq 18 dX9_fault_11 (by decide) (fun c_11 => absurd c_11 (by decide)) (fun c_11 => ?_)
  refine wa_iload_n dX9_fault_14 rfl 0 rfl ?_
  refine wa_goto 26 dX9_fault_15 (by decide) ?_
  exact wa_iret dX9_fault_26 rfl ⟨congrArg (fun z => some (Value.int z)) (rfl), rfl⟩

theorem c_fault_no {G : wm_G} {M : wm_M} (r : Nat) (hr : r < 4) (hz : M.1 16 r = -1) : MD G t_X9_fault [wm_r G (0), .int (nI (r))] (M) (some (.int (-3))) (tNote M 1) := by
  refine wm_met (by decide) (Nat.le_of_ble_eq_true rfl) ?_
  show WA G t_X9_fault (fun v_ N_ => v_ = some (.int (-3)) ∧ N_ = tNote M 1) 0 [(0, wm_r G (0)), (1, .int (nI (r)))] [] (M)
  refine wa_aload_n dX9_fault_0 rfl 0 rfl ?_
  refine wa_aload_n dX9_fault_1 rfl 0 rfl ?_
  refine wa_getr gX9_fault_2 (rfl) rfl ?_
  refine wa_iload_n dX9_fault_5 rfl 1 rfl ?_
  refine wa_cVi (m_ref_no 10 4 80 TB_texts r hr hz) vX9_refusal iX9_fault_6 (rfl) rfl rfl rfl (Nat.le_of_ble_eq_true rfl) ⟨by decide, by decide⟩ ?_
  refine wa_istore_n [(2, .int (-3)), (0, wm_r G (0)), (1, .int (nI (r)))] dX9_fault_9 rfl (by decide) rfl ?_
  refine wa_iload_n dX9_fault_10 rfl 0 rfl ?_
  refine wa_if_eq 18 dX9_fault_11 (by decide) (fun c_11 => absurd c_11 (by decide)) (fun c_11 => ?_)
  refine wa_iload_n dX9_fault_14 rfl 0 rfl ?_
  refine wa_goto 26 dX9_fault_15 (by decide) ?_
  exact wa_iret dX9_fault_26 rfl ⟨congrArg (fun z => some (Value.int z)) (rfl), rfl⟩

theorem c_fault_ok {G : wm_G} {M : wm_M} (r : Nat) (hr : r < 4) (z : Nat) (hz1 : M.1 16 r = nI z) (hz9 : z ≤ 80) : MA G t_X9_fault [wm_r G (0), .int (nI (r))] (M) (fun v N => v = some (.int (tFault (chF M r z) z)) ∧ EqR M N) := by
  have hz : ¬ M.1 16 r = -1 := by rw [hz1]; exact nI_nem1 (by omega)
  refine wm_met (by decide) (Nat.le_of_ble_eq_true rfl) ?_
  show WA G t_X9_fault (fun v N => v = some (.int (tFault (chF M r z) z)) ∧ EqR M N) 0 [(0, wm_r G (0)), (1, .int (nI (r)))] [] (M)
  refine wa_aload_n dX9_fault_0 rfl 0 rfl ?_
  refine wa_aload_n dX9_fault_1 rfl 0 rfl ?_
  refine wa_getr gX9_fault_2 (rfl) rfl ?_
  refine wa_iload_n dX9_fault_5 rfl 1 rfl ?_
  refine wa_cVi (m_ref_ok 10 4 80 TB_texts r hr hz) vX9_refusal iX9_fault_6 (rfl) rfl rfl rfl (Nat.le_of_ble_eq_true rfl) ⟨by decide, by decide⟩ ?_
  refine wa_istore_n [(2, .int (0)), (0, wm_r G (0)), (1, .int (nI (r)))] dX9_fault_9 rfl (by decide) rfl ?_
  refine wa_iload_n dX9_fault_10 rfl 0 rfl ?_
  refine wa_if_eq 18 dX9_fault_11 (by decide) (fun c_11 => ?_) (fun c_11 => absurd c_11 (by decide))
  refine wa_aload_n dX9_fault_18 rfl 1 rfl ?_
  refine wa_getr gX9_fault_19 (rfl) rfl ?_
  refine wa_iload_n dX9_fault_22 rfl 2 rfl ?_
  refine wa_callV (m_faultOf r z hr hz1 hz9) vX7_faultOf iX9_fault_23 (rfl) rfl rfl rfl (Nat.le_of_ble_eq_true rfl) ⟨by decide, by decide⟩ (fun v_ N h_ => ?_)
  obtain ⟨rfl, hS, -⟩ := h_
  show WA G t_X9_fault (fun v N => v = some (.int (tFault (chF M r z) z)) ∧ EqR M N) 26 [(2, .int (0)), (0, wm_r G (0)), (1, .int (nI (r)))] [.int (tFault (chF M r z) z)] (N)
  refine wa_iret dX9_fault_26 rfl ?_
  exact ⟨rfl, EqR.sc hS⟩

theorem c_town_bad {G : wm_G} {M : wm_M} (r : Int32) (hr : wIn r 4 = false) : MD G t_X9_town [wm_r G (0), .int (r)] (M) (some (.int (-1))) (M) := by
  refine wm_met (by decide) (Nat.le_of_ble_eq_true rfl) ?_
  show WA G t_X9_town (fun v_ N_ => v_ = some (.int (-1)) ∧ N_ = M) 0 [(0, wm_r G (0)), (1, .int (r))] [] (M)
  refine wa_aload_n dX9_town_0 rfl 0 rfl ?_
  refine wa_aload_n dX9_town_1 rfl 0 rfl ?_
  refine wa_getr gX9_town_2 (rfl) rfl ?_
  refine wa_iload_n dX9_town_5 rfl 1 rfl ?_
  refine wa_cVi (m_ref_bad 10 4 80 TB_texts r hr) vX9_refusal iX9_town_6 (rfl) rfl rfl rfl (Nat.le_of_ble_eq_true rfl) ⟨by decide, by decide⟩ ?_
  refine wa_istore_n [(2, .int (-1)), (0, wm_r G (0)), (1, .int (r))] dX9_town_9 rfl (by decide) rfl ?_
  refine wa_iload_n dX9_town_10 rfl 0 rfl ?_
  refine wa_if_eq 16 dX9_town_11 (by decide) (fun c_11 => absurd c_11 (by decide)) (fun c_11 => ?_)
  refine wa_iload_n dX9_town_14 rfl 0 rfl ?_
  exact wa_iret dX9_town_15 rfl ⟨congrArg (fun z => some (Value.int z)) (rfl), rfl⟩

theorem c_town_no {G : wm_G} {M : wm_M} (r : Nat) (hr : r < 4) (hz : M.1 16 r = -1) : MD G t_X9_town [wm_r G (0), .int (nI (r))] (M) (some (.int (-3))) (tNote M 1) := by
  refine wm_met (by decide) (Nat.le_of_ble_eq_true rfl) ?_
  show WA G t_X9_town (fun v_ N_ => v_ = some (.int (-3)) ∧ N_ = tNote M 1) 0 [(0, wm_r G (0)), (1, .int (nI (r)))] [] (M)
  refine wa_aload_n dX9_town_0 rfl 0 rfl ?_
  refine wa_aload_n dX9_town_1 rfl 0 rfl ?_
  refine wa_getr gX9_town_2 (rfl) rfl ?_
  refine wa_iload_n dX9_town_5 rfl 1 rfl ?_
  refine wa_cVi (m_ref_no 10 4 80 TB_texts r hr hz) vX9_refusal iX9_town_6 (rfl) rfl rfl rfl (Nat.le_of_ble_eq_true rfl) ⟨by decide, by decide⟩ ?_
  refine wa_istore_n [(2, .int (-3)), (0, wm_r G (0)), (1, .int (nI (r)))] dX9_town_9 rfl (by decide) rfl ?_
  refine wa_iload_n dX9_town_10 rfl 0 rfl ?_
  refine wa_if_eq 16 dX9_town_11 (by decide) (fun c_11 => absurd c_11 (by decide)) (fun c_11 => ?_)
  refine wa_iload_n dX9_town_14 rfl 0 rfl ?_
  exact wa_iret dX9_town_15 rfl ⟨congrArg (fun z => some (Value.int z)) (rfl), rfl⟩

theorem c_town_f {G : wm_G} {M : wm_M} (r : Nat) (hr : r < 4) (z : Nat) (hz1 : M.1 16 r = nI z) (hz9 : z ≤ 80) (hf : ¬ tFault (chF M r z) z = -9) : MA G t_X9_town [wm_r G (0), .int (nI (r))] (M) (fun v N => v = some (.int (-4)) ∧ EqR M N) := by
  have hz : ¬ M.1 16 r = -1 := by rw [hz1]; exact nI_nem1 (by omega)
  refine wm_met (by decide) (Nat.le_of_ble_eq_true rfl) ?_
  show WA G t_X9_town (fun v N => v = some (.int (-4)) ∧ EqR M N) 0 [(0, wm_r G (0)), (1, .int (nI (r)))] [] (M)
  refine wa_aload_n dX9_town_0 rfl 0 rfl ?_
  refine wa_aload_n dX9_town_1 rfl 0 rfl ?_
  refine wa_getr gX9_town_2 (rfl) rfl ?_
  refine wa_iload_n dX9_town_5 rfl 1 rfl ?_
  refine wa_cVi (m_ref_ok 10 4 80 TB_texts r hr hz) vX9_refusal iX9_town_6 (rfl) rfl rfl rfl (Nat.le_of_ble_eq_true rfl) ⟨by decide, by decide⟩ ?_
  refine wa_istore_n [(2, .int (0)), (0, wm_r G (0)), (1, .int (nI (r)))] dX9_town_9 rfl (by decide) rfl ?_
  refine wa_iload_n dX9_town_10 rfl 0 rfl ?_
  refine wa_if_eq 16 dX9_town_11 (by decide) (fun c_11 => ?_) (fun c_11 => absurd c_11 (by decide))
  refine wa_aload_n dX9_town_16 rfl 1 rfl ?_
  refine wa_getr gX9_town_17 (rfl) rfl ?_
  refine wa_iload_n dX9_town_20 rfl 2 rfl ?_
  refine wa_callV (m_faultOf r z hr hz1 hz9) vX7_faultOf iX9_town_21 (rfl) rfl rfl rfl (Nat.le_of_ble_eq_true rfl) ⟨by decide, by decide⟩ (fun v_ N h_ => ?_)
  obtain ⟨rfl, hS, -⟩ := h_
  show WA G t_X9_town (fun v N => v = some (.int (-4)) ∧ EqR M N) 24 [(2, .int (0)), (0, wm_r G (0)), (1, .int (nI (r)))] [.int (tFault (chF M r z) z)] (N)
  refine wa_bipush (-9) dX9_town_24 (by decide) ?_
  refine wa_icmp_eq 32 dX9_town_26 (by decide) (fun c_26 => absurd c_26 hf) (fun c_26 => ?_)
  refine wa_bipush (-4) dX9_town_29 (by decide) ?_
  refine wa_iret dX9_town_31 rfl ?_
  exact ⟨rfl, EqR.sc hS⟩
