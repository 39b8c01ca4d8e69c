theorem m_find {G : wm_G} {M : wm_M} (f : Nat) (h1 : 1 ≤ f) (h5 : f ≤ 5) : MD G t_X9_find [wm_r G (0), .int (nI (f))] (M) (some (.int (-3))) (tNote M f) := by
  refine wm_met (by decide) (Nat.le_of_ble_eq_true rfl) ?_
  show WA G t_X9_find (fun v_ N_ => v_ = some (.int (-3)) ∧ N_ = tNote M f) 0 [(0, wm_r G (0)), (1, .int (nI (f)))] [] (M)
  refine wa_aload_n dX9_find_0 rfl 0 rfl ?_
  refine wa_getr gX9_find_1 (rfl) rfl ?_
  refine wa_iload_n dX9_find_4 rfl 1 rfl ?_
  refine wa_cVv (m_note f h1 h5) vX6_note iX9_find_5 (rfl) rfl rfl rfl (Nat.le_of_ble_eq_true rfl) ⟨by decide, by decide⟩ ?_
  refine wa_bipush (-3) dX9_find_8 (by decide) ?_
  exact wa_iret dX9_find_10 rfl ⟨congrArg (fun z => some (Value.int z)) (rfl), rfl⟩

theorem m_ref_bad {G : wm_G} {M : wm_M} (t m len : Nat) (hT : TB t m len) (r : Int32) (hr : wIn r m = false) : MD G t_X9_refusal [wm_r G (0), wm_r G (t), .int (r)] (M) (some (.int (-1))) (M) := by
  refine wm_met (by decide) (Nat.le_of_ble_eq_true rfl) ?_
  show WA G t_X9_refusal (fun v_ N_ => v_ = some (.int (-1)) ∧ N_ = M) 0 [(0, wm_r G (0)), (1, wm_r G (t)), (2, .int (r))] [] (M)
  refine wa_aload_n dX9_refusal_0 rfl 1 rfl ?_
  refine wa_iload_n dX9_refusal_1 rfl 2 rfl ?_
  refine wa_cVi (m_knows t m len hT r) vX5_knows iX9_refusal_2 (hT.1) rfl rfl rfl (Nat.le_of_ble_eq_true rfl) ⟨by decide, by decide⟩ ?_
  refine wa_eqi (y := (0)) (by rw [hr]; rfl) ?_
  refine wa_if_ne 10 dX9_refusal_5 (by decide) (fun c_5 => absurd c_5 (by decide)) (fun c_5 => ?_)
  refine wa_iconst (-1) dX9_refusal_8 (by decide) ?_
  exact wa_iret dX9_refusal_9 rfl ⟨congrArg (fun z => some (Value.int z)) (rfl), rfl⟩

theorem m_ref_no {G : wm_G} {M : wm_M} (t m len : Nat) (hT : TB t m len) (r : Nat) (hr : r < m) (hz : M.1 (t + 2 + m) r = -1) : MD G t_X9_refusal [wm_r G (0), wm_r G (t), .int (nI (r))] (M) (some (.int (-3))) (tNote M 1) := by
  refine wm_met (by decide) (Nat.le_of_ble_eq_true rfl) ?_
  show WA G t_X9_refusal (fun v_ N_ => v_ = some (.int (-3)) ∧ N_ = tNote M 1) 0 [(0, wm_r G (0)), (1, wm_r G (t)), (2, .int (nI (r)))] [] (M)
  refine wa_aload_n dX9_refusal_0 rfl 1 rfl ?_
  refine wa_iload_n dX9_refusal_1 rfl 2 rfl ?_
  refine wa_cVi (m_knowsN t m len hT r hr) vX5_knows iX9_refusal_2 (hT.1) rfl rfl rfl (Nat.le_of_ble_eq_true rfl) ⟨by decide, by decide⟩ ?_
  refine wa_if_ne 10 dX9_refusal_5 (by decide) (fun c_5 => ?_) (fun c_5 => absurd c_5 (by decide))
  refine wa_aload_n dX9_refusal_10 rfl 1 rfl ?_
  refine wa_iload_n dX9_refusal_11 rfl 2 rfl ?_
  refine wa_cVi (m_hasN t m len hT r hr) vX5_has iX9_refusal_12 (hT.1) rfl rfl rfl (Nat.le_of_ble_eq_true rfl) ⟨by decide, by decide⟩ ?_
  refine wa_eqi (y := (0)) (by rw [hz]; rfl) ?_
  refine wa_if_eq 22 dX9_refusal_15 (by decide) (fun c_15 => ?_) (fun c_15 => absurd c_15 (by decide))
  refine wa_aload_n dX9_refusal_22 rfl 0 rfl ?_
  refine wa_iconst (1) dX9_refusal_23 (by decide) ?_
  refine wa_cVi (m_find 1 (by decide) (by decide)) vX9_find iX9_refusal_24 (rfl) rfl rfl rfl (Nat.le_of_ble_eq_true rfl) ⟨by decide, by decide⟩ ?_
  exact wa_iret dX9_refusal_27 rfl ⟨congrArg (fun z => some (Value.int z)) (rfl), rfl⟩

theorem m_ref_ok {G : wm_G} {M : wm_M} (t m len : Nat) (hT : TB t m len) (r : Nat) (hr : r < m) (hz : ¬ M.1 (t + 2 + m) r = -1) : MD G t_X9_refusal [wm_r G (0), wm_r G (t), .int (nI (r))] (M) (some (.int (0))) (M) := by
  refine wm_met (by decide) (Nat.le_of_ble_eq_true rfl) ?_
  show WA G t_X9_refusal (fun v_ N_ => v_ = some (.int (0)) ∧ N_ = M) 0 [(0, wm_r G (0)), (1, wm_r G (t)), (2, .int (nI (r)))] [] (M)
  refine wa_aload_n dX9_refusal_0 rfl 1 rfl ?_
  refine wa_iload_n dX9_refusal_1 rfl 2 rfl ?_
  refine wa_cVi (m_knowsN t m len hT r hr) vX5_knows iX9_refusal_2 (hT.1) rfl rfl rfl (Nat.le_of_ble_eq_true rfl) ⟨by decide, by decide⟩ ?_
  refine wa_if_ne 10 dX9_refusal_5 (by decide) (fun c_5 => ?_) (fun c_5 => absurd c_5 (by decide))
  refine wa_aload_n dX9_refusal_10 rfl 1 rfl ?_
  refine wa_iload_n dX9_refusal_11 rfl 2 rfl ?_
  refine wa_cVi (m_hasN t m len hT r hr) vX5_has iX9_refusal_12 (hT.1) rfl rfl rfl (Nat.le_of_ble_eq_true rfl) ⟨by decide, by decide⟩ ?_
  refine wa_eqi (y := (1)) (by rw [decide_eq_false hz]; rfl) ?_
  refine wa_if_eq 22 dX9_refusal_15 (by decide) (fun c_15 => absurd c_15 (by decide)) (fun c_15 => ?_)
  refine wa_iconst (0) dX9_refusal_18 (by decide) ?_
  refine wa_goto 27 dX9_refusal_19 (by decide) ?_
  exact wa_iret dX9_refusal_27 rfl ⟨congrArg (fun z => some (Value.int z)) (rfl), rfl⟩

theorem m_pr_bad {G : wm_G} {M : wm_M} (t m len : Nat) (hT : TB t m len) (r : Int32) (hr : wIn r m = false) (i : Int32) : MD G t_X9_placeRefusal [wm_r G (0), wm_r G (t), .int (r), .int (i)] (M) (some (.int (-1))) (M) := by
  refine wm_met (by decide) (Nat.le_of_ble_eq_true rfl) ?_
  show WA G t_X9_placeRefusal (fun v_ N_ => v_ = some (.int (-1)) ∧ N_ = M) 0 [(0, wm_r G (0)), (1, wm_r G (t)), (2, .int (r)), (3, .int (i))] [] (M)
  refine wa_aload_n dX9_placeRefusal_0 rfl 0 rfl ?_
  refine wa_aload_n dX9_placeRefusal_1 rfl 1 rfl ?_
  refine wa_iload_n dX9_placeRefusal_2 rfl 2 rfl ?_
  refine wa_cVi (m_ref_bad t m len hT r hr) vX9_refusal iX9_placeRefusal_3 (rfl) rfl rfl rfl (Nat.le_of_ble_eq_true rfl) ⟨by decide, by decide⟩ ?_
  refine wa_istore [(4, .int (-1)), (0, wm_r G (0)), (1, wm_r G (t)), (2, .int (r)), (3, .int (i))] dX9_placeRefusal_6 (by decide) rfl ?_
  refine wa_iload dX9_placeRefusal_8 0 rfl ?_
  refine wa_if_eq 16 dX9_placeRefusal_10 (by decide) (fun c_10 => absurd c_10 (by decide)) (fun c_10 => ?_)
  refine wa_iload dX9_placeRefusal_13 0 rfl ?_
  exact wa_iret dX9_placeRefusal_15 rfl ⟨congrArg (fun z => some (Value.int z)) (rfl), rfl⟩

theorem m_pr_no {G : wm_G} {M : wm_M} (t m len : Nat) (hT : TB t m len) (r : Nat) (hr : r < m) (hz : M.1 (t + 2 + m) r = -1) (i : Int32) : MD G t_X9_placeRefusal [wm_r G (0), wm_r G (t), .int (nI (r)), .int (i)] (M) (some (.int (-3))) (tNote M 1) := by
  refine wm_met (by decide) (Nat.le_of_ble_eq_true rfl) ?_
  show WA G t_X9_placeRefusal (fun v_ N_ => v_ = some (.int (-3)) ∧ N_ = tNote M 1) 0 [(0, wm_r G (0)), (1, wm_r G (t)), (2, .int (nI (r))), (3, .int (i))] [] (M)
  refine wa_aload_n dX9_placeRefusal_0 rfl 0 rfl ?_
  refine wa_aload_n dX9_placeRefusal_1 rfl 1 rfl ?_
  refine wa_iload_n dX9_placeRefusal_2 rfl 2 rfl ?_
  refine wa_cVi (m_ref_no t m len hT r hr hz) vX9_refusal iX9_placeRefusal_3 (rfl) rfl rfl rfl (Nat.le_of_ble_eq_true rfl) ⟨by decide, by decide⟩ ?_
  refine wa_istore [(4, .int (-3)), (0, wm_r G (0)), (1, wm_r G (t)), (2, .int (nI (r))), (3, .int (i))] dX9_placeRefusal_6 (by decide) rfl ?_
  refine wa_iload dX9_placeRefusal_8 0 rfl ?_
  refine wa_if_eq 16 dX9_placeRefusal_10 (by decide) (fun c_10 => absurd c_10 (by decide)) (fun c_10 => ?_)
  refine wa_iload dX9_placeRefusal_13 0 rfl ?_
  exact wa_iret dX9_placeRefusal_15 rfl ⟨congrArg (fun z => some (Value.int z)) (rfl), rfl⟩

theorem m_pr_out {G : wm_G} {M : wm_M} (t m len : Nat) (hT : TB t m len) (r : Nat) (hr : r < m) (z : Nat) (hz1 : M.1 (t + 2 + m) r = nI z) (hz9 : z ≤ 100) (i : Int32) (hi : wIn i z = false) : MD G t_X9_placeRefusal [wm_r G (0), wm_r G (t), .int (nI (r)), .int (i)] (M) (some (.int (-3))) (tNote M 2) := by
  have hz : ¬ M.1 (t + 2 + m) r = -1 := by rw [hz1]; exact nI_nem1 (by omega)
  have hm := hT.2.2.2.2.1
  refine wm_met (by decide) (Nat.le_of_ble_eq_true rfl) ?_
  show WA G t_X9_placeRefusal (fun v_ N_ => v_ = some (.int (-3)) ∧ N_ = tNote M 2) 0 [(0, wm_r G (0)), (1, wm_r G (t)), (2, .int (nI (r))), (3, .int (i))] [] (M)
  refine wa_aload_n dX9_placeRefusal_0 rfl 0 rfl ?_
  refine wa_aload_n dX9_placeRefusal_1 rfl 1 rfl ?_
  refine wa_iload_n dX9_placeRefusal_2 rfl 2 rfl ?_
  refine wa_cVi (m_ref_ok t m len hT r hr hz) vX9_refusal iX9_placeRefusal_3 (rfl) rfl rfl rfl (Nat.le_of_ble_eq_true rfl) ⟨by decide, by decide⟩ ?_
  refine wa_istore [(4, .int (0)), (0, wm_r G (0)), (1, wm_r G (t)), (2, .int (nI (r))), (3, .int (i))] dX9_placeRefusal_6 (by decide) rfl ?_
  refine wa_iload dX9_placeRefusal_8 0 rfl ?_
  refine wa_if_eq 16 dX9_placeRefusal_10 (by decide) (fun c_10 => ?_) (fun c_10 => absurd c_10 (by decide))
  refine wa_aload_n dX9_placeRefusal_16 rfl 2 rfl ?_
  refine wa_iload_n dX9_placeRefusal_17 rfl 3 rfl ?_
  refine wa_iload_n dX9_placeRefusal_18 rfl 4 rfl ?_
  refine wa_iconst (1) dX9_placeRefusal_19 (by decide) ?_
  refine wa_cVi (m_holds t m len hT (nI r) i 1) vX5_holds iX9_placeRefusal_20 (hT.1) rfl rfl rfl (Nat.le_of_ble_eq_true rfl) ⟨by decide, by decide⟩ ?_
  refine wa_eqi (y := (0)) (by rw [holds_eq hr (by omega) hz1 hz9, hi]; rfl) ?_
  refine wa_if_eq 30 dX9_placeRefusal_23 (by decide) (fun c_23 => ?_) (fun c_23 => absurd c_23 (by decide))
  refine wa_aload_n dX9_placeRefusal_30 rfl 1 rfl ?_
  refine wa_iconst (2) dX9_placeRefusal_31 (by decide) ?_
  refine wa_cVi (m_find 2 (by decide) (by decide)) vX9_find iX9_placeRefusal_32 (rfl) rfl rfl rfl (Nat.le_of_ble_eq_true rfl) ⟨by decide, by decide⟩ ?_
  exact wa_iret dX9_placeRefusal_35 rfl ⟨congrArg (fun z => some (Value.int z)) (rfl), rfl⟩

theorem m_pr_ok {G : wm_G} {M : wm_M} (t m len : Nat) (hT : TB t m len) (r : Nat) (hr : r < m) (z : Nat) (hz1 : M.1 (t + 2 + m) r = nI z) (hz9 : z ≤ 100) (i : Int32) (hi : wIn i z = true) : MD G t_X9_placeRefusal [wm_r G (0), wm_r G (t), .int (nI (r)), .int (i)] (M) (some (.int (0))) (M) := by
  have hz : ¬ M.1 (t + 2 + m) r = -1 := by rw [hz1]; exact nI_nem1 (by omega)
  have hm := hT.2.2.2.2.1
  refine wm_met (by decide) (Nat.le_of_ble_eq_true rfl) ?_
  show WA G t_X9_placeRefusal (fun v_ N_ => v_ = some (.int (0)) ∧ N_ = M) 0 [(0, wm_r G (0)), (1, wm_r G (t)), (2, .int (nI (r))), (3, .int (i))] [] (M)
  refine wa_aload_n dX9_placeRefusal_0 rfl 0 rfl ?_
  refine wa_aload_n dX9_placeRefusal_1 rfl 1 rfl ?_
  refine wa_iload_n dX9_placeRefusal_2 rfl 2 rfl ?_
  refine wa_cVi (m_ref_ok t m len hT r hr hz) vX9_refusal iX9_placeRefusal_3 (rfl) rfl rfl rfl (Nat.le_of_ble_eq_true rfl) ⟨by decide, by decide⟩ ?_
  refine wa_istore [(4, .int (0)), (0, wm_r G (0)), (1, wm_r G (t)), (2, .int (nI (r))), (3, .int (i))] dX9_placeRefusal_6 (by decide) rfl ?_
  refine wa_iload dX9_placeRefusal_8 0 rfl ?_
  refine wa_if_eq 16 dX9_placeRefusal_10 (by decide) (fun c_10 => ?_) (fun c_10 => absurd c_10 (by decide))
  refine wa_aload_n dX9_placeRefusal_16 rfl 2 rfl ?_
  refine wa_iload_n dX9_placeRefusal_17 rfl 3 rfl ?_
  refine wa_iload_n dX9_placeRefusal_18 rfl 4 rfl ?_
  refine wa_iconst (1) dX9_placeRefusal_19 (by decide) ?_
  refine wa_cVi (m_holds t m len hT (nI r) i 1) vX5_holds iX9_placeRefusal_20 (hT.1) rfl rfl rfl (Nat.le_of_ble_eq_true rfl) ⟨by decide, by decide⟩ ?_
  refine wa_eqi (y := (1)) (by rw [holds_eq hr (by omega) hz1 hz9, hi]; rfl) ?_
  refine wa_if_eq 30 dX9_placeRefusal_23 (by decide) (fun c_23 => absurd c_23 (by decide)) (fun c_23 => ?_)
  refine wa_iconst (0) dX9_placeRefusal_26 (by decide) ?_
  refine wa_goto 35 dX9_placeRefusal_27 (by decide) ?_
  exact wa_iret dX9_placeRefusal_35 rfl ⟨congrArg (fun z => some (Value.int z)) (rfl), rfl⟩

theorem m_bg_bad {G : wm_G} {M : wm_M} (t m len : Nat) (hT : TB t m len) (r : Int32) (hr : wIn r m = false) (n v : Int32) : MD G t_X9_begin [wm_r G (0), wm_r G (t), .int (r), .int (n), .int (v)] (M) (some (.int (-1))) (M) := by
  refine wm_met (by decide) (Nat.le_of_ble_eq_true rfl) ?_
  show WA G t_X9_begin (fun v_ N_ => v_ = some (.int (-1)) ∧ N_ = M) 0 [(0, wm_r G (0)), (1, wm_r G (t)), (2, .int (r)), (3, .int (n)), (4, .int (v))] [] (M)
  refine wa_aload_n dX9_begin_0 rfl 1 rfl ?_
  refine wa_iload_n dX9_begin_1 rfl 2 rfl ?_
  refine wa_cVi (m_knows t m len hT r) vX5_knows iX9_begin_2 (hT.1) rfl rfl rfl (Nat.le_of_ble_eq_true rfl) ⟨by decide, by decide⟩ ?_
  refine wa_eqi (y := (0)) (by rw [hr]; rfl) ?_
  refine wa_if_eq 16 dX9_begin_5 (by decide) (fun c_5 => ?_) (fun c_5 => absurd c_5 (by decide))
  refine wa_iconst (-1) dX9_begin_16 (by decide) ?_
  exact wa_iret dX9_begin_17 rfl ⟨congrArg (fun z => some (Value.int z)) (rfl), rfl⟩

theorem m_bg_big {G : wm_G} {M : wm_M} (t m len : Nat) (hT : TB t m len) (r : Nat) (hr : r < m) (n v : Int32) (hL : M.1 t 0 = nI len) (hn : ¬ n ≤ nI len) : MD G t_X9_begin [wm_r G (0), wm_r G (t), .int (nI (r)), .int (n), .int (v)] (M) (some (.int (-1))) (M) := by
  refine wm_met (by decide) (Nat.le_of_ble_eq_true rfl) ?_
  show WA G t_X9_begin (fun v_ N_ => v_ = some (.int (-1)) ∧ N_ = M) 0 [(0, wm_r G (0)), (1, wm_r G (t)), (2, .int (nI (r))), (3, .int (n)), (4, .int (v))] [] (M)
  refine wa_aload_n dX9_begin_0 rfl 1 rfl ?_
  refine wa_iload_n dX9_begin_1 rfl 2 rfl ?_
  refine wa_cVi (m_knowsN t m len hT r hr) vX5_knows iX9_begin_2 (hT.1) rfl rfl rfl (Nat.le_of_ble_eq_true rfl) ⟨by decide, by decide⟩ ?_
  refine wa_if_eq 16 dX9_begin_5 (by decide) (fun c_5 => absurd c_5 (by decide)) (fun c_5 => ?_)
  refine wa_iload_n dX9_begin_8 rfl 3 rfl ?_
  refine wa_aload_n dX9_begin_9 rfl 1 rfl ?_
  refine wa_geti gX9_begin_10 (hT.1) rfl ?_
  refine wa_eqi (y := (nI (len))) (hL) ?_
  refine wa_icmp_le 18 dX9_begin_13 (by decide) (fun c_13 => absurd c_13 hn) (fun c_13 => ?_)
  refine wa_iconst (-1) dX9_begin_16 (by decide) ?_
  exact wa_iret dX9_begin_17 rfl ⟨congrArg (fun z => some (Value.int z)) (rfl), rfl⟩

theorem m_bg_neg {G : wm_G} {M : wm_M} (t m len : Nat) (hT : TB t m len) (r : Nat) (hr : r < m) (n v : Int32) (hL : M.1 t 0 = nI len) (hn : n < 0) : MD G t_X9_begin [wm_r G (0), wm_r G (t), .int (nI (r)), .int (n), .int (v)] (M) (some (.int (-3))) (tNote M 5) := by
  have hl := hT.2.2.2.2.2
  refine wm_met (by decide) (Nat.le_of_ble_eq_true rfl) ?_
  show WA G t_X9_begin (fun v_ N_ => v_ = some (.int (-3)) ∧ N_ = tNote M 5) 0 [(0, wm_r G (0)), (1, wm_r G (t)), (2, .int (nI (r))), (3, .int (n)), (4, .int (v))] [] (M)
  refine wa_aload_n dX9_begin_0 rfl 1 rfl ?_
  refine wa_iload_n dX9_begin_1 rfl 2 rfl ?_
  refine wa_cVi (m_knowsN t m len hT r hr) vX5_knows iX9_begin_2 (hT.1) rfl rfl rfl (Nat.le_of_ble_eq_true rfl) ⟨by decide, by decide⟩ ?_
  refine wa_if_eq 16 dX9_begin_5 (by decide) (fun c_5 => absurd c_5 (by decide)) (fun c_5 => ?_)
  refine wa_iload_n dX9_begin_8 rfl 3 rfl ?_
  refine wa_aload_n dX9_begin_9 rfl 1 rfl ?_
  refine wa_geti gX9_begin_10 (hT.1) rfl ?_
  refine wa_eqi (y := (nI (len))) (hL) ?_
  refine wa_icmp_le 18 dX9_begin_13 (by decide) (fun c_13 => ?_) (fun c_13 => absurd (neg_le (by omega) hn) c_13)
  refine wa_iload_n dX9_begin_18 rfl 3 rfl ?_
  refine wa_if_ge 28 dX9_begin_19 (by decide) (fun c_19 => absurd hn (Int32.not_lt.mpr c_19)) (fun c_19 => ?_)
  refine wa_aload_n dX9_begin_22 rfl 0 rfl ?_
  refine wa_iconst (5) dX9_begin_23 (by decide) ?_
  refine wa_cVi (m_find 5 (by decide) (by decide)) vX9_find iX9_begin_24 (rfl) rfl rfl rfl (Nat.le_of_ble_eq_true rfl) ⟨by decide, by decide⟩ ?_
  exact wa_iret dX9_begin_27 rfl ⟨congrArg (fun z => some (Value.int z)) (rfl), rfl⟩

theorem m_bg_ok {G : wm_G} {M : wm_M} (t m len : Nat) (hT : TB t m len) (r : Nat) (hr : r < m) (n : Nat) (v : Int32) (hL : M.1 t 0 = nI len) (hn : n ≤ len) : MD G t_X9_begin [wm_r G (0), wm_r G (t), .int (nI (r)), .int (nI (n)), .int (v)] (M) (some (.int (nI (n)))) (wIa (wI M (t + 2 + m) r (nI n)) (t + 2 + r) (wFill (M.1 (t + 2 + r)) 0 n v)) := by
  have hl := hT.2.2.2.2.2
  refine wm_met (by decide) (Nat.le_of_ble_eq_true rfl) ?_
  show WA G t_X9_begin (fun v_ N_ => v_ = some (.int (nI (n))) ∧ N_ = wIa (wI M (t + 2 + m) r (nI n)) (t + 2 + r) (wFill (M.1 (t + 2 + r)) 0 n v)) 0 [(0, wm_r G (0)), (1, wm_r G (t)), (2, .int (nI (r))), (3, .int (nI (n))), (4, .int (v))] [] (M)
  refine wa_aload_n dX9_begin_0 rfl 1 rfl ?_
  refine wa_iload_n dX9_begin_1 rfl 2 rfl ?_
  refine wa_cVi (m_knowsN t m len hT r hr) vX5_knows iX9_begin_2 (hT.1) rfl rfl rfl (Nat.le_of_ble_eq_true rfl) ⟨by decide, by decide⟩ ?_
  refine wa_if_eq 16 dX9_begin_5 (by decide) (fun c_5 => absurd c_5 (by decide)) (fun c_5 => ?_)
  refine wa_iload_n dX9_begin_8 rfl 3 rfl ?_
  refine wa_aload_n dX9_begin_9 rfl 1 rfl ?_
  refine wa_geti gX9_begin_10 (hT.1) rfl ?_
  refine wa_eqi (y := (nI (len))) (hL) ?_
  refine wa_icmp_leN (a := n) (b := len) 18 dX9_begin_13 (by decide) (by omega) (by omega) (fun c_13 => ?_) (fun c_13 => absurd hn (by omega))
  refine wa_iload_n dX9_begin_18 rfl 3 rfl ?_
  refine wa_if_geN (a := n) 28 dX9_begin_19 (by decide) (by omega) (fun c_19 => ?_) (fun c_19 => absurd c_19 (by omega))
  refine wa_aload_n dX9_begin_28 rfl 1 rfl ?_
  refine wa_iload_n dX9_begin_29 rfl 2 rfl ?_
  refine wa_iload_n dX9_begin_30 rfl 3 rfl ?_
  refine wa_iload dX9_begin_31 4 rfl ?_
  refine wa_cVv (m_beginN t m len hT r n v hr hn hL) vX5_begin iX9_begin_33 (hT.1) rfl rfl rfl (Nat.le_of_ble_eq_true rfl) ⟨by decide, by decide⟩ ?_
  refine wa_iload_n dX9_begin_36 rfl 3 rfl ?_
  exact wa_iret dX9_begin_37 rfl ⟨congrArg (fun z => some (Value.int z)) (rfl), rfl⟩

theorem c_row_bad {G : wm_G} {M : wm_M} (r : Int32) (hr : wIn r 6 = false) (n : Int32) : MD G t_X9_row [wm_r G (0), .int (r), .int (n)] (M) (some (.int (-1))) (M) := by
  refine wm_met (by decide) (Nat.le_of_ble_eq_true rfl) ?_
  show WA G t_X9_row (fun v_ N_ => v_ = some (.int (-1)) ∧ N_ = M) 0 [(0, wm_r G (0)), (1, .int (r)), (2, .int (n))] [] (M)
  refine wa_aload_n dX9_row_0 rfl 0 rfl ?_
  refine wa_aload_n dX9_row_1 rfl 0 rfl ?_
  refine wa_getr gX9_row_2 (rfl) rfl ?_
  refine wa_iload_n dX9_row_5 rfl 1 rfl ?_
  refine wa_iload_n dX9_row_6 rfl 2 rfl ?_
  refine wa_iconst (0) dX9_row_7 (by decide) ?_
  refine wa_cVi (m_bg_bad 1 6 60 TB_rows r hr n 0) vX9_begin iX9_row_8 (rfl) rfl rfl rfl (Nat.le_of_ble_eq_true rfl) ⟨by decide, by decide⟩ ?_
  exact wa_iret dX9_row_11 rfl ⟨congrArg (fun z => some (Value.int z)) (rfl), rfl⟩

theorem c_row_big {G : wm_G} {M : wm_M} (r : Nat) (hr : r < 6) (n : Int32) (hL : (M.1 1 0 = nI 60)) (hn : ¬ n ≤ nI 60) : MD G t_X9_row [wm_r G (0), .int (nI (r)), .int (n)] (M) (some (.int (-1))) (M) := by
  refine wm_met (by decide) (Nat.le_of_ble_eq_true rfl) ?_
  show WA G t_X9_row (fun v_ N_ => v_ = some (.int (-1)) ∧ N_ = M) 0 [(0, wm_r G (0)), (1, .int (nI (r))), (2, .int (n))] [] (M)
  refine wa_aload_n dX9_row_0 rfl 0 rfl ?_
  refine wa_aload_n dX9_row_1 rfl 0 rfl ?_
  refine wa_getr gX9_row_2 (rfl) rfl ?_
  refine wa_iload_n dX9_row_5 rfl 1 rfl ?_
  refine wa_iload_n dX9_row_6 rfl 2 rfl ?_
  refine wa_iconst (0) dX9_row_7 (by decide) ?_
  refine wa_cVi (m_bg_big 1 6 60 TB_rows r hr n 0 hL hn) vX9_begin iX9_row_8 (rfl) rfl rfl rfl (Nat.le_of_ble_eq_true rfl) ⟨by decide, by decide⟩ ?_
  exact wa_iret dX9_row_11 rfl ⟨congrArg (fun z => some (Value.int z)) (rfl), rfl⟩

theorem c_row_neg {G : wm_G} {M : wm_M} (r : Nat) (hr : r < 6) (n : Int32) (hL : (M.1 1 0 = nI 60)) (hn : n < 0) : MD G t_X9_row [wm_r G (0), .int (nI (r)), .int (n)] (M) (some (.int (-3))) (tNote M 5) := by
  refine wm_met (by decide) (Nat.le_of_ble_eq_true rfl) ?_
  show WA G t_X9_row (fun v_ N_ => v_ = some (.int (-3)) ∧ N_ = tNote M 5) 0 [(0, wm_r G (0)), (1, .int (nI (r))), (2, .int (n))] [] (M)
  refine wa_aload_n dX9_row_0 rfl 0 rfl ?_
  refine wa_aload_n dX9_row_1 rfl 0 rfl ?_
  refine wa_getr gX9_row_2 (rfl) rfl ?_
  refine wa_iload_n dX9_row_5 rfl 1 rfl ?_
  refine wa_iload_n dX9_row_6 rfl 2 rfl ?_
  refine wa_iconst (0) dX9_row_7 (by decide) ?_
  refine wa_cVi (m_bg_neg 1 6 60 TB_rows r hr n 0 hL hn) vX9_begin iX9_row_8 (rfl) rfl rfl rfl (Nat.le_of_ble_eq_true rfl) ⟨by decide, by decide⟩ ?_
  exact wa_iret dX9_row_11 rfl ⟨congrArg (fun z => some (Value.int z)) (rfl), rfl⟩

theorem c_row_ok {G : wm_G} {M : wm_M} (r : Nat) (hr : r < 6) (n : Nat) (hL : (M.1 1 0 = nI 60)) (hn : n ≤ 60) : MD G t_X9_row [wm_r G (0), .int (nI (r)), .int (nI (n))] (M) (some (.int (nI (n)))) (wIa (wI M 9 r (nI n)) (3 + r) (wFill (M.1 (3 + r)) 0 n 0)) := by
  refine wm_met (by decide) (Nat.le_of_ble_eq_true rfl) ?_
  show WA G t_X9_row (fun v_ N_ => v_ = some (.int (nI (n))) ∧ N_ = wIa (wI M 9 r (nI n)) (3 + r) (wFill (M.1 (3 + r)) 0 n 0)) 0 [(0, wm_r G (0)), (1, .int (nI (r))), (2, .int (nI (n)))] [] (M)
  refine wa_aload_n dX9_row_0 rfl 0 rfl ?_
  refine wa_aload_n dX9_row_1 rfl 0 rfl ?_
  refine wa_getr gX9_row_2 (rfl) rfl ?_
  refine wa_iload_n dX9_row_5 rfl 1 rfl ?_
  refine wa_iload_n dX9_row_6 rfl 2 rfl ?_
  refine wa_iconst (0) dX9_row_7 (by decide) ?_
  refine wa_cVi (m_bg_ok 1 6 60 TB_rows r hr n 0 hL hn) vX9_begin iX9_row_8 (rfl) rfl rfl rfl (Nat.le_of_ble_eq_true rfl) ⟨by decide, by decide⟩ ?_
  exact wa_iret dX9_row_11 rfl ⟨congrArg (fun z => some (Value.int z)) (rfl), rfl⟩

theorem c_text_bad {G : wm_G} {M : wm_M} (r : Int32) (hr : wIn r 4 = false) (n : Int32) : MD G t_X9_text [wm_r G (0), .int (r), .int (n)] (M) (some (.int (-1))) (M) := by
  refine wm_met (by decide) (Nat.le_of_ble_eq_true rfl) ?_
  show WA G t_X9_text (fun v_ N_ => v_ = some (.int (-1)) ∧ N_ = M) 0 [(0, wm_r G (0)), (1, .int (r)), (2, .int (n))] [] (M)
  refine wa_aload_n dX9_text_0 rfl 0 rfl ?_
  refine wa_aload_n dX9_text_1 rfl 0 rfl ?_
  refine wa_getr gX9_text_2 (rfl) rfl ?_
  refine wa_iload_n dX9_text_5 rfl 1 rfl ?_
  refine wa_iload_n dX9_text_6 rfl 2 rfl ?_
  refine wa_bipush (32) dX9_text_7 (by decide) ?_
  refine wa_cVi (m_bg_bad 10 4 80 TB_texts r hr n 32) vX9_begin iX9_text_9 (rfl) rfl rfl rfl (Nat.le_of_ble_eq_true rfl) ⟨by decide, by decide⟩ ?_
  exact wa_iret dX9_text_12 rfl ⟨congrArg (fun z => some (Value.int z)) (rfl), rfl⟩

theorem c_text_big {G : wm_G} {M : wm_M} (r : Nat) (hr : r < 4) (n : Int32) (hL : (M.1 10 0 = nI 80)) (hn : ¬ n ≤ nI 80) : MD G t_X9_text [wm_r G (0), .int (nI (r)), .int (n)] (M) (some (.int (-1))) (M) := by
  refine wm_met (by decide) (Nat.le_of_ble_eq_true rfl) ?_
  show WA G t_X9_text (fun v_ N_ => v_ = some (.int (-1)) ∧ N_ = M) 0 [(0, wm_r G (0)), (1, .int (nI (r))), (2, .int (n))] [] (M)
  refine wa_aload_n dX9_text_0 rfl 0 rfl ?_
  refine wa_aload_n dX9_text_1 rfl 0 rfl ?_
  refine wa_getr gX9_text_2 (rfl) rfl ?_
  refine wa_iload_n dX9_text_5 rfl 1 rfl ?_
  refine wa_iload_n dX9_text_6 rfl 2 rfl ?_
  refine wa_bipush (32) dX9_text_7 (by decide) ?_
  refine wa_cVi (m_bg_big 10 4 80 TB_texts r hr n 32 hL hn) vX9_begin iX9_text_9 (rfl) rfl rfl rfl (Nat.le_of_ble_eq_true rfl) ⟨by decide, by decide⟩ ?_
  exact wa_iret dX9_text_12 rfl ⟨congrArg (fun z => some (Value.int z)) (rfl), rfl⟩

theorem c_text_neg {G : wm_G} {M : wm_M} (r : Nat) (hr : r < 4) (n : Int32) (hL : (M.1 10 0 = nI 80)) (hn : n < 0) : MD G t_X9_text [wm_r G (0), .int (nI (r)), .int (n)] (M) (some (.int (-3))) (tNote M 5) := by
  refine wm_met (by decide) (Nat.le_of_ble_eq_true rfl) ?_
  show WA G t_X9_text (fun v_ N_ => v_ = some (.int (-3)) ∧ N_ = tNote M 5) 0 [(0, wm_r G (0)), (1, .int (nI (r))), (2, .int (n))] [] (M)
  refine wa_aload_n dX9_text_0 rfl 0 rfl ?_
  refine wa_aload_n dX9_text_1 rfl 0 rfl ?_
  refine wa_getr gX9_text_2 (rfl) rfl ?_
  refine wa_iload_n dX9_text_5 rfl 1 rfl ?_
  refine wa_iload_n dX9_text_6 rfl 2 rfl ?_
  refine wa_bipush (32) dX9_text_7 (by decide) ?_
  refine wa_cVi (m_bg_neg 10 4 80 TB_texts r hr n 32 hL hn) vX9_begin iX9_text_9 (rfl) rfl rfl rfl (Nat.le_of_ble_eq_true rfl) ⟨by decide, by decide⟩ ?_
  exact wa_iret dX9_text_12 rfl ⟨congrArg (fun z => some (Value.int z)) (rfl), rfl⟩

theorem c_text_ok {G : wm_G} {M : wm_M} (r : Nat) (hr : r < 4) (n : Nat) (hL : (M.1 10 0 = nI 80)) (hn : n ≤ 80) : MD G t_X9_text [wm_r G (0), .int (nI (r)), .int (nI (n))] (M) (some (.int (nI (n)))) (wIa (wI M 16 r (nI n)) (12 + r) (wFill (M.1 (12 + r)) 0 n 32)) := by
  refine wm_met (by decide) (Nat.le_of_ble_eq_true rfl) ?_
  show WA G t_X9_text (fun v_ N_ => v_ = some (.int (nI (n))) ∧ N_ = wIa (wI M 16 r (nI n)) (12 + r) (wFill (M.1 (12 + r)) 0 n 32)) 0 [(0, wm_r G (0)), (1, .int (nI (r))), (2, .int (nI (n)))] [] (M)
  refine wa_aload_n dX9_text_0 rfl 0 rfl ?_
  refine wa_aload_n dX9_text_1 rfl 0 rfl ?_
  refine wa_getr gX9_text_2 (rfl) rfl ?_
  refine wa_iload_n dX9_text_5 rfl 1 rfl ?_
  refine wa_iload_n dX9_text_6 rfl 2 rfl ?_
  refine wa_bipush (32) dX9_text_7 (by decide) ?_
  refine wa_cVi (m_bg_ok 10 4 80 TB_texts r hr n 32 hL hn) vX9_begin iX9_text_9 (rfl) rfl rfl rfl (Nat.le_of_ble_eq_true rfl) ⟨by decide, by decide⟩ ?_
  exact wa_iret dX9_text_12 rfl ⟨congrArg (fun z => some (Value.int z)) (rfl), rfl⟩

theorem c_lay_bad {G : wm_G} {M : wm_M} (r : Int32) (hr : wIn r 6 = false) (i : Int32) (v : Int32) : MD G t_X9_lay [wm_r G (0), .int (r), .int (i), .int (v)] (M) (some (.int (-1))) (M) := by
  refine wm_met (by decide) (Nat.le_of_ble_eq_true rfl) ?_
  show WA G t_X9_lay (fun v_ N_ => v_ = some (.int (-1)) ∧ N_ = M) 0 [(0, wm_r G (0)), (1, .int (r)), (2, .int (i)), (3, .int (v))] [] (M)
  refine wa_aload_n dX9_lay_0 rfl 0 rfl ?_
  refine wa_aload_n dX9_lay_1 rfl 0 rfl ?_
  refine wa_getr gX9_lay_2 (rfl) rfl ?_
  refine wa_iload_n dX9_lay_5 rfl 1 rfl ?_
  refine wa_iload_n dX9_lay_6 rfl 2 rfl ?_
  refine wa_cVi (m_pr_bad 1 6 60 TB_rows r hr i) vX9_placeRefusal iX9_lay_7 (rfl) rfl rfl rfl (Nat.le_of_ble_eq_true rfl) ⟨by decide, by decide⟩ ?_
  refine wa_istore [(4, .int (-1)), (0, wm_r G (0)), (1, .int (r)), (2, .int (i)), (3, .int (v))] dX9_lay_10 (by decide) rfl ?_
  refine wa_iload dX9_lay_12 0 rfl ?_
  refine wa_if_eq 20 dX9_lay_14 (by decide) (fun c_14 => absurd c_14 (by decide)) (fun c_14 => ?_)
  refine wa_iload dX9_lay_17 0 rfl ?_
  exact wa_iret dX9_lay_19 rfl ⟨congrArg (fun z => some (Value.int z)) (rfl), rfl⟩

theorem c_lay_no {G : wm_G} {M : wm_M} (r : Nat) (hr : r < 6) (hz : M.1 9 r = -1) (i : Int32) (v : Int32) : MD G t_X9_lay [wm_r G (0), .int (nI (r)), .int (i), .int (v)] (M) (some (.int (-3))) (tNote M 1) := by
  refine wm_met (by decide) (Nat.le_of_ble_eq_true rfl) ?_
  show WA G t_X9_lay (fun v_ N_ => v_ = some (.int (-3)) ∧ N_ = tNote M 1) 0 [(0, wm_r G (0)), (1, .int (nI (r))), (2, .int (i)), (3, .int (v))] [] (M)
  refine wa_aload_n dX9_lay_0 rfl 0 rfl ?_
  refine wa_aload_n dX9_lay_1 rfl 0 rfl ?_
  refine wa_getr gX9_lay_2 (rfl) rfl ?_
  refine wa_iload_n dX9_lay_5 rfl 1 rfl ?_
  refine wa_iload_n dX9_lay_6 rfl 2 rfl ?_
  refine wa_cVi (m_pr_no 1 6 60 TB_rows r hr hz i) vX9_placeRefusal iX9_lay_7 (rfl) rfl rfl rfl (Nat.le_of_ble_eq_true rfl) ⟨by decide, by decide⟩ ?_
  refine wa_istore [(4, .int (-3)), (0, wm_r G (0)), (1, .int (nI (r))), (2, .int (i)), (3, .int (v))] dX9_lay_10 (by decide) rfl ?_
  refine wa_iload dX9_lay_12 0 rfl ?_
  refine wa_if_eq 20 dX9_lay_14 (by decide) (fun c_14 => absurd c_14 (by decide)) (fun c_14 => ?_)
  refine wa_iload dX9_lay_17 0 rfl ?_
  exact wa_iret dX9_lay_19 rfl ⟨congrArg (fun z => some (Value.int z)) (rfl), rfl⟩

theorem c_lay_out {G : wm_G} {M : wm_M} (r : Nat) (hr : r < 6) (z : Nat) (hz1 : M.1 9 r = nI z) (hz9 : z ≤ 60) (i : Int32) (hi : wIn i z = false) (v : Int32) : MD G t_X9_lay [wm_r G (0), .int (nI (r)), .int (i), .int (v)] (M) (some (.int (-3))) (tNote M 2) := by
  refine wm_met (by decide) (Nat.le_of_ble_eq_true rfl) ?_
  show WA G t_X9_lay (fun v_ N_ => v_ = some (.int (-3)) ∧ N_ = tNote M 2) 0 [(0, wm_r G (0)), (1, .int (nI (r))), (2, .int (i)), (3, .int (v))] [] (M)
  refine wa_aload_n dX9_lay_0 rfl 0 rfl ?_
  refine wa_aload_n dX9_lay_1 rfl 0 rfl ?_
  refine wa_getr gX9_lay_2 (rfl) rfl ?_
  refine wa_iload_n dX9_lay_5 rfl 1 rfl ?_
  refine wa_iload_n dX9_lay_6 rfl 2 rfl ?_
  refine wa_cVi (m_pr_out 1 6 60 TB_rows r hr z hz1 (by omega) i hi) vX9_placeRefusal iX9_lay_7 (rfl) rfl rfl rfl (Nat.le_of_ble_eq_true rfl) ⟨by decide, by decide⟩ ?_
  refine wa_istore [(4, .int (-3)), (0, wm_r G (0)), (1, .int (nI (r))), (2, .int (i)), (3, .int (v))] dX9_lay_10 (by decide) rfl ?_
  refine wa_iload dX9_lay_12 0 rfl ?_
  refine wa_if_eq 20 dX9_lay_14 (by decide) (fun c_14 => absurd c_14 (by decide)) (fun c_14 => ?_)
  refine wa_iload dX9_lay_17 0 rfl ?_
  exact wa_iret dX9_lay_19 rfl ⟨congrArg (fun z => some (Value.int z)) (rfl), rfl⟩

theorem c_lay_ok {G : wm_G} {M : wm_M} (r : Nat) (hr : r < 6) (z : Nat) (hz1 : M.1 9 r = nI z) (hz9 : z ≤ 60) (i : Nat) (hi : i < z) (v : Int32) : MD G t_X9_lay [wm_r G (0), .int (nI (r)), .int (nI (i)), .int (v)] (M) (some (.int (1))) (wI (tTell M (M.1 (3 + r) i)) (3 + r) i v) := by
  refine wm_met (by decide) (Nat.le_of_ble_eq_true rfl) ?_
  show WA G t_X9_lay (fun v_ N_ => v_ = some (.int (1)) ∧ N_ = wI (tTell M (M.1 (3 + r) i)) (3 + r) i v) 0 [(0, wm_r G (0)), (1, .int (nI (r))), (2, .int (nI (i))), (3, .int (v))] [] (M)
  refine wa_aload_n dX9_lay_0 rfl 0 rfl ?_
  refine wa_aload_n dX9_lay_1 rfl 0 rfl ?_
  refine wa_getr gX9_lay_2 (rfl) rfl ?_
  refine wa_iload_n dX9_lay_5 rfl 1 rfl ?_
  refine wa_iload_n dX9_lay_6 rfl 2 rfl ?_
  refine wa_cVi (m_pr_ok 1 6 60 TB_rows r hr z hz1 (by omega) (nI i) (by rw [wIn_nI (by omega)]; exact decide_eq_true hi)) vX9_placeRefusal iX9_lay_7 (rfl) rfl rfl rfl (Nat.le_of_ble_eq_true rfl) ⟨by decide, by decide⟩ ?_
  refine wa_istore [(4, .int (0)), (0, wm_r G (0)), (1, .int (nI (r))), (2, .int (nI (i))), (3, .int (v))] dX9_lay_10 (by decide) rfl ?_
  refine wa_iload dX9_lay_12 0 rfl ?_
  refine wa_if_eq 20 dX9_lay_14 (by decide) (fun c_14 => ?_) (fun c_14 => absurd c_14 (by decide))
  refine wa_aload_n dX9_lay_20 rfl 1 rfl ?_
  refine wa_getr gX9_lay_21 (rfl) rfl ?_
  refine wa_aload_n dX9_lay_24 rfl 1 rfl ?_
  refine wa_getr gX9_lay_25 (rfl) rfl ?_
  refine wa_iload_n dX9_lay_28 rfl 2 rfl ?_
  refine wa_iload_n dX9_lay_29 rfl 3 rfl ?_
  refine wa_cVi (m_getN 1 6 60 TB_rows r i z hr (by omega) hz1 hz9) vX5_get iX9_lay_30 (rfl) rfl rfl rfl (Nat.le_of_ble_eq_true rfl) ⟨by decide, by decide⟩ ?_
  refine wa_eqi (y := (M.1 (3 + r) i)) (if_pos hi) ?_
  refine wa_puti gX9_lay_33 (rfl) rfl ?_
  refine wa_aload_n dX9_lay_36 rfl 1 rfl ?_
  refine wa_getr gX9_lay_37 (rfl) rfl ?_
  refine wa_iload_n dX9_lay_40 rfl 2 rfl ?_
  refine wa_iload_n dX9_lay_41 rfl 3 rfl ?_
  refine wa_iload_n dX9_lay_42 rfl 4 rfl ?_
  refine wa_cVv (m_setN 1 6 60 TB_rows r i z v hr hi (by unfold wI; rw [wIa_n (by decide)]; exact hz1) hz9) vX5_set iX9_lay_43 (rfl) rfl rfl rfl (Nat.le_of_ble_eq_true rfl) ⟨by decide, by decide⟩ ?_
  refine wa_iconst (1) dX9_lay_46 (by decide) ?_
  exact wa_iret dX9_lay_47 rfl ⟨congrArg (fun z => some (Value.int z)) (rfl), rfl⟩

theorem c_at_bad {G : wm_G} {M : wm_M} (r : Int32) (hr : wIn r 6 = false) (i : Int32) : MD G t_X9_at [wm_r G (0), .int (r), .int (i)] (M) (some (.int (-1))) (M) := by
  refine wm_met (by decide) (Nat.le_of_ble_eq_true rfl) ?_
  show WA G t_X9_at (fun v_ N_ => v_ = some (.int (-1)) ∧ N_ = M) 0 [(0, wm_r G (0)), (1, .int (r)), (2, .int (i))] [] (M)
  refine wa_aload_n dX9_at_0 rfl 0 rfl ?_
  refine wa_aload_n dX9_at_1 rfl 0 rfl ?_
  refine wa_getr gX9_at_2 (rfl) rfl ?_
  refine wa_iload_n dX9_at_5 rfl 1 rfl ?_
  refine wa_iload_n dX9_at_6 rfl 2 rfl ?_
  refine wa_cVi (m_pr_bad 1 6 60 TB_rows r hr i) vX9_placeRefusal iX9_at_7 (rfl) rfl rfl rfl (Nat.le_of_ble_eq_true rfl) ⟨by decide, by decide⟩ ?_
  refine wa_istore_n [(3, .int (-1)), (0, wm_r G (0)), (1, .int (r)), (2, .int (i))] dX9_at_10 rfl (by decide) rfl ?_
  refine wa_iload_n dX9_at_11 rfl 0 rfl ?_
  refine wa_if_eq 17 dX9_at_12 (by decide) (fun c_12 => absurd c_12 (by decide)) (fun c_12 => ?_)
  refine wa_iload_n dX9_at_15 rfl 0 rfl ?_
  exact wa_iret dX9_at_16 rfl ⟨congrArg (fun z => some (Value.int z)) (rfl), rfl⟩

theorem c_at_no {G : wm_G} {M : wm_M} (r : Nat) (hr : r < 6) (hz : M.1 9 r = -1) (i : Int32) : MD G t_X9_at [wm_r G (0), .int (nI (r)), .int (i)] (M) (some (.int (-3))) (tNote M 1) := by
  refine wm_met (by decide) (Nat.le_of_ble_eq_true rfl) ?_
  show WA G t_X9_at (fun v_ N_ => v_ = some (.int (-3)) ∧ N_ = tNote M 1) 0 [(0, wm_r G (0)), (1, .int (nI (r))), (2, .int (i))] [] (M)
  refine wa_aload_n dX9_at_0 rfl 0 rfl ?_
  refine wa_aload_n dX9_at_1 rfl 0 rfl ?_
  refine wa_getr gX9_at_2 (rfl) rfl ?_
  refine wa_iload_n dX9_at_5 rfl 1 rfl ?_
  refine wa_iload_n dX9_at_6 rfl 2 rfl ?_
  refine wa_cVi (m_pr_no 1 6 60 TB_rows r hr hz i) vX9_placeRefusal iX9_at_7 (rfl) rfl rfl rfl (Nat.le_of_ble_eq_true rfl) ⟨by decide, by decide⟩ ?_
  refine wa_istore_n [(3, .int (-3)), (0, wm_r G (0)), (1, .int (nI (r))), (2, .int (i))] dX9_at_10 rfl (by decide) rfl ?_
  refine wa_iload_n dX9_at_11 rfl 0 rfl ?_
  refine wa_if_eq 17 dX9_at_12 (by decide) (fun c_12 => absurd c_12 (by decide)) (fun c_12 => ?_)
  refine wa_iload_n dX9_at_15 rfl 0 rfl ?_
  exact wa_iret dX9_at_16 rfl ⟨congrArg (fun z => some (Value.int z)) (rfl), rfl⟩

theorem c_at_out {G : wm_G} {M : wm_M} (r : Nat) (hr : r < 6) (z : Nat) (hz1 : M.1 9 r = nI z) (hz9 : z ≤ 60) (i : Int32) (hi : wIn i z = false) : MD G t_X9_at [wm_r G (0), .int (nI (r)), .int (i)] (M) (some (.int (-3))) (tNote M 2) := by
  refine wm_met (by decide) (Nat.le_of_ble_eq_true rfl) ?_
  show WA G t_X9_at (fun v_ N_ => v_ = some (.int (-3)) ∧ N_ = tNote M 2) 0 [(0, wm_r G (0)), (1, .int (nI (r))), (2, .int (i))] [] (M)
  refine wa_aload_n dX9_at_0 rfl 0 rfl ?_
  refine wa_aload_n dX9_at_1 rfl 0 rfl ?_
  refine wa_getr gX9_at_2 (rfl) rfl ?_
  refine wa_iload_n dX9_at_5 rfl 1 rfl ?_
  refine wa_iload_n dX9_at_6 rfl 2 rfl ?_
  refine wa_cVi (m_pr_out 1 6 60 TB_rows r hr z hz1 (by omega) i hi) vX9_placeRefusal iX9_at_7 (rfl) rfl rfl rfl (Nat.le_of_ble_eq_true rfl) ⟨by decide, by decide⟩ ?_
  refine wa_istore_n [(3, .int (-3)), (0, wm_r G (0)), (1, .int (nI (r))), (2, .int (i))] dX9_at_10 rfl (by decide) rfl ?_
  refine wa_iload_n dX9_at_11 rfl 0 rfl ?_
  refine wa_if_eq 17 dX9_at_12 (by decide) (fun c_12 => absurd c_12 (by decide)) (fun c_12 => ?_)
  refine wa_iload_n dX9_at_15 rfl 0 rfl ?_
  exact wa_iret dX9_at_16 rfl ⟨congrArg (fun z => some (Value.int z)) (rfl), rfl⟩

theorem c_at_ok {G : wm_G} {M : wm_M} (r : Nat) (hr : r < 6) (z : Nat) (hz1 : M.1 9 r = nI z) (hz9 : z ≤ 60) (i : Nat) (hi : i < z) : MD G t_X9_at [wm_r G (0), .int (nI (r)), .int (nI (i))] (M) (some (.int (1))) (tTell M (M.1 (3 + r) i)) := by
  refine wm_met (by decide) (Nat.le_of_ble_eq_true rfl) ?_
  show WA G t_X9_at (fun v_ N_ => v_ = some (.int (1)) ∧ N_ = tTell M (M.1 (3 + r) i)) 0 [(0, wm_r G (0)), (1, .int (nI (r))), (2, .int (nI (i)))] [] (M)
  refine wa_aload_n dX9_at_0 rfl 0 rfl ?_
  refine wa_aload_n dX9_at_1 rfl 0 rfl ?_
  refine wa_getr gX9_at_2 (rfl) rfl ?_
  refine wa_iload_n dX9_at_5 rfl 1 rfl ?_
  refine wa_iload_n dX9_at_6 rfl 2 rfl ?_
  refine wa_cVi (m_pr_ok 1 6 60 TB_rows r hr z hz1 (by omega) (nI i) (by rw [wIn_nI (by omega)]; exact decide_eq_true hi)) vX9_placeRefusal iX9_at_7 (rfl) rfl rfl rfl (Nat.le_of_ble_eq_true rfl) ⟨by decide, by decide⟩ ?_
  refine wa_istore_n [(3, .int (0)), (0, wm_r G (0)), (1, .int (nI (r))), (2, .int (nI (i)))] dX9_at_10 rfl (by decide) rfl ?_
  refine wa_iload_n dX9_at_11 rfl 0 rfl ?_
  refine wa_if_eq 17 dX9_at_12 (by decide) (fun c_12 => ?_) (fun c_12 => absurd c_12 (by decide))
  refine wa_aload_n dX9_at_17 rfl 1 rfl ?_
  refine wa_getr gX9_at_18 (rfl) rfl ?_
  refine wa_aload_n dX9_at_21 rfl 1 rfl ?_
  refine wa_getr gX9_at_22 (rfl) rfl ?_
  refine wa_iload_n dX9_at_25 rfl 2 rfl ?_
  refine wa_iload_n dX9_at_26 rfl 3 rfl ?_
  refine wa_cVi (m_getN 1 6 60 TB_rows r i z hr (by omega) hz1 hz9) vX5_get iX9_at_27 (rfl) rfl rfl rfl (Nat.le_of_ble_eq_true rfl) ⟨by decide, by decide⟩ ?_
  refine wa_eqi (y := (M.1 (3 + r) i)) (if_pos hi) ?_
  refine wa_puti gX9_at_30 (rfl) rfl ?_
  refine wa_iconst (1) dX9_at_33 (by decide) ?_
  exact wa_iret dX9_at_34 rfl ⟨congrArg (fun z => some (Value.int z)) (rfl), rfl⟩

theorem c_tear_bad {G : wm_G} {M : wm_M} (r : Int32) (hr : wIn r 6 = false) : MD G t_X9_tear [wm_r G (0), .int (r)] (M) (some (.int (-1))) (M) := by
  refine wm_met (by decide) (Nat.le_of_ble_eq_true rfl) ?_
  show WA G t_X9_tear (fun v_ N_ => v_ = some (.int (-1)) ∧ N_ = M) 0 [(0, wm_r G (0)), (1, .int (r))] [] (M)
  refine wa_aload_n dX9_tear_0 rfl 0 rfl ?_
  refine wa_aload_n dX9_tear_1 rfl 0 rfl ?_
  refine wa_getr gX9_tear_2 (rfl) rfl ?_
  refine wa_iload_n dX9_tear_5 rfl 1 rfl ?_
  refine wa_cVi (m_ref_bad 1 6 60 TB_rows r hr) vX9_refusal iX9_tear_6 (rfl) rfl rfl rfl (Nat.le_of_ble_eq_true rfl) ⟨by decide, by decide⟩ ?_
  refine wa_istore_n [(2, .int (-1)), (0, wm_r G (0)), (1, .int (r))] dX9_tear_9 rfl (by decide) rfl ?_
  refine wa_iload_n dX9_tear_10 rfl 0 rfl ?_
  refine wa_if_eq 16 dX9_tear_11 (by decide) (fun c_11 => absurd c_11 (by decide)) (fun c_11 => ?_)
  refine wa_iload_n dX9_tear_14 rfl 0 rfl ?_
  exact wa_iret dX9_tear_15 rfl ⟨congrArg (fun z => some (Value.int z)) (rfl), rfl⟩

theorem c_tear_no {G : wm_G} {M : wm_M} (r : Nat) (hr : r < 6) (hz : M.1 9 r = -1) : MD G t_X9_tear [wm_r G (0), .int (nI (r))] (M) (some (.int (-3))) (tNote M 1) := by
  refine wm_met (by decide) (Nat.le_of_ble_eq_true rfl) ?_
  show WA G t_X9_tear (fun v_ N_ => v_ = some (.int (-3)) ∧ N_ = tNote M 1) 0 [(0, wm_r G (0)), (1, .int (nI (r)))] [] (M)
  refine wa_aload_n dX9_tear_0 rfl 0 rfl ?_
  refine wa_aload_n dX9_tear_1 rfl 0 rfl ?_
  refine wa_getr gX9_tear_2 (rfl) rfl ?_
  refine wa_iload_n dX9_tear_5 rfl 1 rfl ?_
  refine wa_cVi (m_ref_no 1 6 60 TB_rows r hr hz) vX9_refusal iX9_tear_6 (rfl) rfl rfl rfl (Nat.le_of_ble_eq_true rfl) ⟨by decide, by decide⟩ ?_
  refine wa_istore_n [(2, .int (-3)), (0, wm_r G (0)), (1, .int (nI (r)))] dX9_tear_9 rfl (by decide) rfl ?_
  refine wa_iload_n dX9_tear_10 rfl 0 rfl ?_
  refine wa_if_eq 16 dX9_tear_11 (by decide) (fun c_11 => absurd c_11 (by decide)) (fun c_11 => ?_)
  refine wa_iload_n dX9_tear_14 rfl 0 rfl ?_
  exact wa_iret dX9_tear_15 rfl ⟨congrArg (fun z => some (Value.int z)) (rfl), rfl⟩

theorem c_tear_ok {G : wm_G} {M : wm_M} (r : Nat) (hr : r < 6) (hz : ¬ M.1 9 r = -1) : MD G t_X9_tear [wm_r G (0), .int (nI (r))] (M) (some (.int (1))) (wI M 9 r (-1)) := by
  refine wm_met (by decide) (Nat.le_of_ble_eq_true rfl) ?_
  show WA G t_X9_tear (fun v_ N_ => v_ = some (.int (1)) ∧ N_ = wI M 9 r (-1)) 0 [(0, wm_r G (0)), (1, .int (nI (r)))] [] (M)
  refine wa_aload_n dX9_tear_0 rfl 0 rfl ?_
  refine wa_aload_n dX9_tear_1 rfl 0 rfl ?_
  refine wa_getr gX9_tear_2 (rfl) rfl ?_
  refine wa_iload_n dX9_tear_5 rfl 1 rfl ?_
  refine wa_cVi (m_ref_ok 1 6 60 TB_rows r hr hz) vX9_refusal iX9_tear_6 (rfl) rfl rfl rfl (Nat.le_of_ble_eq_true rfl) ⟨by decide, by decide⟩ ?_
  refine wa_istore_n [(2, .int (0)), (0, wm_r G (0)), (1, .int (nI (r)))] dX9_tear_9 rfl (by decide) rfl ?_
  refine wa_iload_n dX9_tear_10 rfl 0 rfl ?_
  refine wa_if_eq 16 dX9_tear_11 (by decide) (fun c_11 => ?_) (fun c_11 => absurd c_11 (by decide))
  refine wa_aload_n dX9_tear_16 rfl 1 rfl ?_
  refine wa_getr gX9_tear_17 (rfl) rfl ?_
  refine wa_iload_n dX9_tear_20 rfl 2 rfl ?_
  refine wa_cVv (m_dropN 1 6 60 TB_rows r hr) vX5_drop iX9_tear_21 (rfl) rfl rfl rfl (Nat.le_of_ble_eq_true rfl) ⟨by decide, by decide⟩ ?_
  refine wa_iconst (1) dX9_tear_24 (by decide) ?_
  exact wa_iret dX9_tear_25 rfl ⟨congrArg (fun z => some (Value.int z)) (rfl), rfl⟩

theorem c_put_bad {G : wm_G} {M : wm_M} (r : Int32) (hr : wIn r 4 = false) (i v : Int32) : MD G t_X9_put [wm_r G (0), .int (r), .int (i), .int (v)] (M) (some (.int (-1))) (M) := by
  refine wm_met (by decide) (Nat.le_of_ble_eq_true rfl) ?_
  show WA G t_X9_put (fun v_ N_ => v_ = some (.int (-1)) ∧ N_ = M) 0 [(0, wm_r G (0)), (1, .int (r)), (2, .int (i)), (3, .int (v))] [] (M)
  refine wa_aload_n dX9_put_0 rfl 0 rfl ?_
  refine wa_aload_n dX9_put_1 rfl 0 rfl ?_
  refine wa_getr gX9_put_2 (rfl) rfl ?_
  refine wa_iload_n dX9_put_5 rfl 1 rfl ?_
  refine wa_iload_n dX9_put_6 rfl 2 rfl ?_
  refine wa_cVi (m_pr_bad 10 4 80 TB_texts r hr i) vX9_placeRefusal iX9_put_7 (rfl) rfl rfl rfl (Nat.le_of_ble_eq_true rfl) ⟨by decide, by decide⟩ ?_
  refine wa_istore [(4, .int (-1)), (0, wm_r G (0)), (1, .int (r)), (2, .int (i)), (3, .int (v))] dX9_put_10 (by decide) rfl ?_
  refine wa_iload dX9_put_12 0 rfl ?_
  refine wa_if_eq 20 dX9_put_14 (by decide) (fun c_14 => absurd c_14 (by decide)) (fun c_14 => ?_)
  refine wa_iload dX9_put_17 0 rfl ?_
  exact wa_iret dX9_put_19 rfl ⟨congrArg (fun z => some (Value.int z)) (rfl), rfl⟩

theorem c_put_no {G : wm_G} {M : wm_M} (r : Nat) (hr : r < 4) (hz : M.1 16 r = -1) (i v : Int32) : MD G t_X9_put [wm_r G (0), .int (nI (r)), .int (i), .int (v)] (M) (some (.int (-3))) (tNote M 1) := by
  refine wm_met (by decide) (Nat.le_of_ble_eq_true rfl) ?_
  show WA G t_X9_put (fun v_ N_ => v_ = some (.int (-3)) ∧ N_ = tNote M 1) 0 [(0, wm_r G (0)), (1, .int (nI (r))), (2, .int (i)), (3, .int (v))] [] (M)
  refine wa_aload_n dX9_put_0 rfl 0 rfl ?_
  refine wa_aload_n dX9_put_1 rfl 0 rfl ?_
  refine wa_getr gX9_put_2 (rfl) rfl ?_
  refine wa_iload_n dX9_put_5 rfl 1 rfl ?_
  refine wa_iload_n dX9_put_6 rfl 2 rfl ?_
  refine wa_cVi (m_pr_no 10 4 80 TB_texts r hr hz i) vX9_placeRefusal iX9_put_7 (rfl) rfl rfl rfl (Nat.le_of_ble_eq_true rfl) ⟨by decide, by decide⟩ ?_
  refine wa_istore [(4, .int (-3)), (0, wm_r G (0)), (1, .int (nI (r))), (2, .int (i)), (3, .int (v))] dX9_put_10 (by decide) rfl ?_
  refine wa_iload dX9_put_12 0 rfl ?_
  refine wa_if_eq 20 dX9_put_14 (by decide) (fun c_14 => absurd c_14 (by decide)) (fun c_14 => ?_)
  refine wa_iload dX9_put_17 0 rfl ?_
  exact wa_iret dX9_put_19 rfl ⟨congrArg (fun z => some (Value.int z)) (rfl), rfl⟩

theorem c_put_out {G : wm_G} {M : wm_M} (r : Nat) (hr : r < 4) (z : Nat) (hz1 : M.1 16 r = nI z) (hz9 : z ≤ 80) (i : Int32) (hi : wIn i z = false) (v : Int32) : MD G t_X9_put [wm_r G (0), .int (nI (r)), .int (i), .int (v)] (M) (some (.int (-3))) (tNote M 2) := by
  refine wm_met (by decide) (Nat.le_of_ble_eq_true rfl) ?_
  show WA G t_X9_put (fun v_ N_ => v_ = some (.int (-3)) ∧ N_ = tNote M 2) 0 [(0, wm_r G (0)), (1, .int (nI (r))), (2, .int (i)), (3, .int (v))] [] (M)
  refine wa_aload_n dX9_put_0 rfl 0 rfl ?_
  refine wa_aload_n dX9_put_1 rfl 0 rfl ?_
  refine wa_getr gX9_put_2 (rfl) rfl ?_
  refine wa_iload_n dX9_put_5 rfl 1 rfl ?_
  refine wa_iload_n dX9_put_6 rfl 2 rfl ?_
  refine wa_cVi (m_pr_out 10 4 80 TB_texts r hr z hz1 (by omega) i hi) vX9_placeRefusal iX9_put_7 (rfl) rfl rfl rfl (Nat.le_of_ble_eq_true rfl) ⟨by decide, by decide⟩ ?_
  refine wa_istore [(4, .int (-3)), (0, wm_r G (0)), (1, .int (nI (r))), (2, .int (i)), (3, .int (v))] dX9_put_10 (by decide) rfl ?_
  refine wa_iload dX9_put_12 0 rfl ?_
  refine wa_if_eq 20 dX9_put_14 (by decide) (fun c_14 => absurd c_14 (by decide)) (fun c_14 => ?_)
  refine wa_iload dX9_put_17 0 rfl ?_
  exact wa_iret dX9_put_19 rfl ⟨congrArg (fun z => some (Value.int z)) (rfl), rfl⟩

theorem c_put_ok {G : wm_G} {M : wm_M} (r : Nat) (hr : r < 4) (z : Nat) (hz1 : M.1 16 r = nI z) (hz9 : z ≤ 80) (i : Nat) (hi : i < z) (v : Int32) : MD G t_X9_put [wm_r G (0), .int (nI (r)), .int (nI (i)), .int (v)] (M) (some (.int (M.1 (12 + r) i + 1000))) (wI M (12 + r) i v.toInt8.toInt32) := by
  refine wm_met (by decide) (Nat.le_of_ble_eq_true rfl) ?_
  show WA G t_X9_put (fun v_ N_ => v_ = some (.int (M.1 (12 + r) i + 1000)) ∧ N_ = wI M (12 + r) i v.toInt8.toInt32) 0 [(0, wm_r G (0)), (1, .int (nI (r))), (2, .int (nI (i))), (3, .int (v))] [] (M)
  refine wa_aload_n dX9_put_0 rfl 0 rfl ?_
  refine wa_aload_n dX9_put_1 rfl 0 rfl ?_
  refine wa_getr gX9_put_2 (rfl) rfl ?_
  refine wa_iload_n dX9_put_5 rfl 1 rfl ?_
  refine wa_iload_n dX9_put_6 rfl 2 rfl ?_
  refine wa_cVi (m_pr_ok 10 4 80 TB_texts r hr z hz1 (by omega) (nI i) (by rw [wIn_nI (by omega)]; exact decide_eq_true hi)) vX9_placeRefusal iX9_put_7 (rfl) rfl rfl rfl (Nat.le_of_ble_eq_true rfl) ⟨by decide, by decide⟩ ?_
  refine wa_istore [(4, .int (0)), (0, wm_r G (0)), (1, .int (nI (r))), (2, .int (nI (i))), (3, .int (v))] dX9_put_10 (by decide) rfl ?_
  refine wa_iload dX9_put_12 0 rfl ?_
  refine wa_if_eq 20 dX9_put_14 (by decide) (fun c_14 => ?_) (fun c_14 => absurd c_14 (by decide))
  refine wa_aload_n dX9_put_20 rfl 1 rfl ?_
  refine wa_getr gX9_put_21 (rfl) rfl ?_
  refine wa_iload_n dX9_put_24 rfl 2 rfl ?_
  refine wa_iload_n dX9_put_25 rfl 3 rfl ?_
  refine wa_cVi (m_getN 10 4 80 TB_texts r i z hr (by omega) hz1 hz9) vX5_get iX9_put_26 (rfl) rfl rfl rfl (Nat.le_of_ble_eq_true rfl) ⟨by decide, by decide⟩ ?_
  refine wa_eqi (y := (M.1 (12 + r) i)) (if_pos hi) ?_
  refine wa_istore [(5, .int (M.1 (12 + r) i)), (4, .int (0)), (0, wm_r G (0)), (1, .int (nI (r))), (2, .int (nI (i))), (3, .int (v))] dX9_put_29 (by decide) rfl ?_
  refine wa_aload_n dX9_put_31 rfl 2 rfl ?_
  refine wa_getr gX9_put_32 (rfl) rfl ?_
  refine wa_iload_n dX9_put_35 rfl 3 rfl ?_
  refine wa_iload_n dX9_put_36 rfl 4 rfl ?_
  refine wa_iload_n dX9_put_37 rfl 5 rfl ?_
  refine wa_i2b dX9_put_38 ?_
  refine wa_cVv (m_setN 10 4 80 TB_texts r i z v.toInt8.toInt32 hr hi hz1 hz9) vX5_set iX9_put_39 (rfl) rfl rfl rfl (Nat.le_of_ble_eq_true rfl) ⟨by decide, by decide⟩ ?_
  refine wa_iload dX9_put_42 0 rfl ?_
  refine wa_sipush (1000) dX9_put_44 (by decide) ?_
  refine wa_iadd dX9_put_47 ?_
  exact wa_iret dX9_put_48 rfl ⟨congrArg (fun z => some (Value.int z)) (rfl), rfl⟩

theorem c_mean_bad {G : wm_G} {M : wm_M} (r : Int32) (hr : wIn r 6 = false) : MD G t_X9_mean [wm_r G (0), .int (r)] (M) (some (.int (-1))) (M) := by
  refine wm_met (by decide) (Nat.le_of_ble_eq_true rfl) ?_
  show WA G t_X9_mean (fun v_ N_ => v_ = some (.int (-1)) ∧ N_ = M) 0 [(0, wm_r G (0)), (1, .int (r))] [] (M)
  refine wa_aload_n dX9_mean_0 rfl 0 rfl ?_
  refine wa_aload_n dX9_mean_1 rfl 0 rfl ?_
  refine wa_getr gX9_mean_2 (rfl) rfl ?_
  refine wa_iload_n dX9_mean_5 rfl 1 rfl ?_
  refine wa_cVi (m_ref_bad 1 6 60 TB_rows r hr) vX9_refusal iX9_mean_6 (rfl) rfl rfl rfl (Nat.le_of_ble_eq_true rfl) ⟨by decide, by decide⟩ ?_
  refine wa_istore_n [(2, .int (-1)), (0, wm_r G (0)), (1, .int (r))] dX9_mean_9 rfl (by decide) rfl ?_
  refine wa_iload_n dX9_mean_10 rfl 0 rfl ?_
  refine wa_if_eq 16 dX9_mean_11 (by decide) (fun c_11 => absurd c_11 (by decide)) (fun c_11 => ?_)
  refine wa_iload_n dX9_mean_14 rfl 0 rfl ?_
  exact wa_iret dX9_mean_15 rfl ⟨congrArg (fun z => some (Value.int z)) (rfl), rfl⟩

theorem c_mean_no {G : wm_G} {M : wm_M} (r : Nat) (hr : r < 6) (hz : M.1 9 r = -1) : MD G t_X9_mean [wm_r G (0), .int (nI (r))] (M) (some (.int (-3))) (tNote M 1) := by
  refine wm_met (by decide) (Nat.le_of_ble_eq_true rfl) ?_
  show WA G t_X9_mean (fun v_ N_ => v_ = some (.int (-3)) ∧ N_ = tNote M 1) 0 [(0, wm_r G (0)), (1, .int (nI (r)))] [] (M)
  refine wa_aload_n dX9_mean_0 rfl 0 rfl ?_
  refine wa_aload_n dX9_mean_1 rfl 0 rfl ?_
  refine wa_getr gX9_mean_2 (rfl) rfl ?_
  refine wa_iload_n dX9_mean_5 rfl 1 rfl ?_
  refine wa_cVi (m_ref_no 1 6 60 TB_rows r hr hz) vX9_refusal iX9_mean_6 (rfl) rfl rfl rfl (Nat.le_of_ble_eq_true rfl) ⟨by decide, by decide⟩ ?_
  refine wa_istore_n [(2, .int (-3)), (0, wm_r G (0)), (1, .int (nI (r)))] dX9_mean_9 rfl (by decide) rfl ?_
  refine wa_iload_n dX9_mean_10 rfl 0 rfl ?_
  refine wa_if_eq 16 dX9_mean_11 (by decide) (fun c_11 => absurd c_11 (by decide)) (fun c_11 => ?_)
  refine wa_iload_n dX9_mean_14 rfl 0 rfl ?_
  exact wa_iret dX9_mean_15 rfl ⟨congrArg (fun z => some (Value.int z)) (rfl), rfl⟩

theorem c_mean_0 {G : wm_G} {M : wm_M} (r : Nat) (hr : r < 6) (hz1 : M.1 9 r = nI 0) : MD G t_X9_mean [wm_r G (0), .int (nI (r))] (M) (some (.int (-3))) (tNote M 4) := by
  have hz : ¬ M.1 9 r = -1 := by rw [hz1]; exact nI_nem1 (by omega)
  refine wm_met (by decide) (Nat.le_of_ble_eq_true rfl) ?_
  show WA G t_X9_mean (fun v_ N_ => v_ = some (.int (-3)) ∧ N_ = tNote M 4) 0 [(0, wm_r G (0)), (1, .int (nI (r)))] [] (M)
  refine wa_aload_n dX9_mean_0 rfl 0 rfl ?_
  refine wa_aload_n dX9_mean_1 rfl 0 rfl ?_
  refine wa_getr gX9_mean_2 (rfl) rfl ?_
  refine wa_iload_n dX9_mean_5 rfl 1 rfl ?_
  refine wa_cVi (m_ref_ok 1 6 60 TB_rows r hr hz) vX9_refusal iX9_mean_6 (rfl) rfl rfl rfl (Nat.le_of_ble_eq_true rfl) ⟨by decide, by decide⟩ ?_
  refine wa_istore_n [(2, .int (0)), (0, wm_r G (0)), (1, .int (nI (r)))] dX9_mean_9 rfl (by decide) rfl ?_
  refine wa_iload_n dX9_mean_10 rfl 0 rfl ?_
  refine wa_if_eq 16 dX9_mean_11 (by decide) (fun c_11 => ?_) (fun c_11 => absurd c_11 (by decide))
  refine wa_aload_n dX9_mean_16 rfl 1 rfl ?_
  refine wa_getr gX9_mean_17 (rfl) rfl ?_
  refine wa_iload_n dX9_mean_20 rfl 2 rfl ?_
  refine wa_cVi (m_sizeN 1 6 60 TB_rows r hr) vX5_size iX9_mean_21 (rfl) rfl rfl rfl (Nat.le_of_ble_eq_true rfl) ⟨by decide, by decide⟩ ?_
  refine wa_eqi (y := (0)) (by rw [show M.1 (1 + 2 + 6) r = nI 0 from hz1, nI_clamp (by decide)]; rfl) ?_
  refine wa_istore_n [(3, .int (0)), (2, .int (0)), (0, wm_r G (0)), (1, .int (nI (r)))] dX9_mean_24 rfl (by decide) rfl ?_
  refine wa_iload_n dX9_mean_25 rfl 0 rfl ?_
  refine wa_if_gt 35 dX9_mean_26 (by decide) (fun c_26 => absurd c_26 (by decide)) (fun c_26 => ?_)
  refine wa_aload_n dX9_mean_29 rfl 2 rfl ?_
  refine wa_iconst (4) dX9_mean_30 (by decide) ?_
  refine wa_cVi (m_find 4 (by decide) (by decide)) vX9_find iX9_mean_31 (rfl) rfl rfl rfl (Nat.le_of_ble_eq_true rfl) ⟨by decide, by decide⟩ ?_
  exact wa_iret dX9_mean_34 rfl ⟨congrArg (fun z => some (Value.int z)) (rfl), rfl⟩

theorem c_mean_ok {G : wm_G} {M : wm_M} (r : Nat) (hr : r < 6) (z : Nat) (hz1 : M.1 9 r = nI z) (hz9 : z ≤ 60) (hz0 : 0 < z) : MD G t_X9_mean [wm_r G (0), .int (nI (r))] (M) (some (.int (1))) (tTell M ((mSum (M.1 (3 + r)) z) / (nI z).toInt64).toInt32) := by
  have hz : ¬ M.1 9 r = -1 := by rw [hz1]; exact nI_nem1 (by omega)
  refine wm_met (by decide) (Nat.le_of_ble_eq_true rfl) ?_
  show WA G t_X9_mean (fun v_ N_ => v_ = some (.int (1)) ∧ N_ = tTell M ((mSum (M.1 (3 + r)) z) / (nI z).toInt64).toInt32) 0 [(0, wm_r G (0)), (1, .int (nI (r)))] [] (M)
  refine wa_aload_n dX9_mean_0 rfl 0 rfl ?_
  refine wa_aload_n dX9_mean_1 rfl 0 rfl ?_
  refine wa_getr gX9_mean_2 (rfl) rfl ?_
  refine wa_iload_n dX9_mean_5 rfl 1 rfl ?_
  refine wa_cVi (m_ref_ok 1 6 60 TB_rows r hr hz) vX9_refusal iX9_mean_6 (rfl) rfl rfl rfl (Nat.le_of_ble_eq_true rfl) ⟨by decide, by decide⟩ ?_
  refine wa_istore_n [(2, .int (0)), (0, wm_r G (0)), (1, .int (nI (r)))] dX9_mean_9 rfl (by decide) rfl ?_
  refine wa_iload_n dX9_mean_10 rfl 0 rfl ?_
  refine wa_if_eq 16 dX9_mean_11 (by decide) (fun c_11 => ?_) (fun c_11 => absurd c_11 (by decide))
  refine wa_aload_n dX9_mean_16 rfl 1 rfl ?_
  refine wa_getr gX9_mean_17 (rfl) rfl ?_
  refine wa_iload_n dX9_mean_20 rfl 2 rfl ?_
  refine wa_cVi (m_sizeN 1 6 60 TB_rows r hr) vX5_size iX9_mean_21 (rfl) rfl rfl rfl (Nat.le_of_ble_eq_true rfl) ⟨by decide, by decide⟩ ?_
  refine wa_eqi (y := (nI (z))) (by rw [show M.1 (1 + 2 + 6) r = nI z from hz1, nI_clamp (by omega)]) ?_
  refine wa_istore_n [(3, .int (nI (z))), (2, .int (0)), (0, wm_r G (0)), (1, .int (nI (r)))] dX9_mean_24 rfl (by decide) rfl ?_
  refine wa_iload_n dX9_mean_25 rfl 0 rfl ?_
  refine wa_if_gtN (a := z) 35 dX9_mean_26 (by decide) (by omega) (fun c_26 => ?_) (fun c_26 => absurd hz0 (by omega))
  refine wa_lconst (0) dX9_mean_35 (by decide) ?_
  refine wa_eql (y := mSum (M.1 (3 + r)) 0) (rfl) ?_
  refine wa_lstore [(4, .long (mSum (M.1 (3 + r)) 0)), (3, .int (nI (z))), (2, .int (0)), (0, wm_r G (0)), (1, .int (nI (r)))] dX9_mean_36 (by decide) rfl ?_
  refine wa_iconst (0) dX9_mean_38 (by decide) ?_
  refine wa_istore [(6, .int (0)), (4, .long (mSum (M.1 (3 + r)) 0)), (3, .int (nI (z))), (2, .int (0)), (0, wm_r G (0)), (1, .int (nI (r)))] dX9_mean_39 (by decide) rfl ?_
  have L_41 : ∀ (n_ : Nat) (i : Nat), (z - i) < n_ → (i ≤ z) → WA G t_X9_mean (fun v_ N_ => v_ = some (.int (1)) ∧ N_ = tTell M ((mSum (M.1 (3 + r)) z) / (nI z).toInt64).toInt32) 41 [(6, .int (nI (i))), (4, .long (mSum (M.1 (3 + r)) i)), (3, .int (nI (z))), (0, wm_r G (0)), (1, .int (nI (r)))] [] (M) := by
    intro n_
    induction n_ with
    | zero => intro i h_; exact absurd h_ (Nat.not_lt_zero _)
    | succ n_ ih_41 =>
      intro i h_ hi
      refine wa_iload dX9_mean_41 0 rfl ?_
      refine wa_iload_n dX9_mean_43 rfl 2 rfl ?_
      refine wa_icmp_geN (a := i) (b := z) 69 dX9_mean_44 (by decide) (by omega) (by omega) (fun c_44 => ?_) (fun c_44 => ?_)
      · refine wa_aload_n dX9_mean_69 rfl 3 rfl ?_
        refine wa_getr gX9_mean_70 (rfl) rfl ?_
        refine wa_lload dX9_mean_73 1 rfl ?_
        refine wa_iload_n dX9_mean_75 rfl 2 rfl ?_
        refine wa_i2l dX9_mean_76 ?_
        refine wa_ldiv dX9_mean_77 (nIL_ne (by omega) (by omega)) ?_
        refine wa_l2i dX9_mean_78 ?_
        refine wa_puti gX9_mean_79 (rfl) rfl ?_
        refine wa_iconst (1) dX9_mean_82 (by decide) ?_
        exact wa_iret dX9_mean_83 rfl ⟨congrArg (fun z => some (Value.int z)) (rfl), by rw [show i = z by omega]; rfl⟩
      · refine wa_lload dX9_mean_47 1 rfl ?_
        refine wa_aload_n dX9_mean_49 rfl 3 rfl ?_
        refine wa_getr gX9_mean_50 (rfl) rfl ?_
        refine wa_iload_n dX9_mean_53 rfl 4 rfl ?_
        refine wa_iload dX9_mean_54 0 rfl ?_
        refine wa_cVi (m_getN 1 6 60 TB_rows r i z hr (by omega) hz1 hz9) vX5_get iX9_mean_56 (rfl) rfl rfl rfl (Nat.le_of_ble_eq_true rfl) ⟨by decide, by decide⟩ ?_
        refine wa_eqi (y := (M.1 (3 + r) i)) (if_pos c_44) ?_
        refine wa_i2l dX9_mean_59 ?_
        refine wa_ladd dX9_mean_60 ?_
        refine wa_eql (y := mSum (M.1 (3 + r)) (i + 1)) (rfl) ?_
        refine wa_lstore [(4, .long (mSum (M.1 (3 + r)) (i + 1))), (6, .int (nI (i))), (3, .int (nI (z))), (0, wm_r G (0)), (1, .int (nI (r)))] dX9_mean_61 (by decide) rfl ?_
        refine wa_iinc ((nI (i + 1))) [(6, .int (nI (i + 1))), (4, .long (mSum (M.1 (3 + r)) (i + 1))), (3, .int (nI (z))), (0, wm_r G (0)), (1, .int (nI (r)))] dX9_mean_63 1 rfl (nI_inc _) (by decide) rfl ?_
        refine wa_goto 41 dX9_mean_66 (by decide) ?_
        exact ih_41 (i + 1) (by omega) (by omega)
  refine wa_sub [0, 1, 2, 4, 5] rfl ?_
  exact L_41 _ 0 (Nat.lt_succ_self _) (Nat.zero_le _)
