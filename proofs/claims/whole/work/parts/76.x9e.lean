theorem m_holdsWords {G : wm_G} {M : wm_M} (r : Nat) (hr : r < 6) (z : Nat) (hz1 : M.1 9 r = nI z) (hz9 : z ≤ 60) (least : Int32) : MD G t_X9_holdsWords [wm_r G (0), .int (nI (r)), .int (least)] (M) (some (.int (wB (hwB (M.1 (3 + r)) least z)))) (M) := by
  refine wm_met (by decide) (Nat.le_of_ble_eq_true rfl) ?_
  show WA G t_X9_holdsWords (fun v_ N_ => v_ = some (.int (wB (hwB (M.1 (3 + r)) least z))) ∧ N_ = M) 0 [(0, wm_r G (0)), (1, .int (nI (r))), (2, .int (least))] [] (M)
  refine wa_iconst (0) dX9_holdsWords_0 (by decide) ?_
  refine wa_istore_n [(3, .int (0)), (0, wm_r G (0)), (1, .int (nI (r))), (2, .int (least))] dX9_holdsWords_1 rfl (by decide) rfl ?_
  have L_2 : ∀ (n_ : Nat) (i : Nat), (z - i) < n_ → (i ≤ z) → (∀ j, j < i → (!decide (M.1 (3 + r) j < least) && decide (M.1 (3 + r) j < 8)) = true) → WA G t_X9_holdsWords (fun v_ N_ => v_ = some (.int (wB (hwB (M.1 (3 + r)) least z))) ∧ N_ = M) 2 [(3, .int (nI (i))), (0, wm_r G (0)), (1, .int (nI (r))), (2, .int (least))] [] (M) := by
    intro n_
    induction n_ with
    | zero => intro i h_; exact absurd h_ (Nat.not_lt_zero _)
    | succ n_ ih_2 =>
      intro i h_ hi hall
      refine wa_iload_n dX9_holdsWords_2 rfl 0 rfl ?_
      refine wa_aload_n dX9_holdsWords_3 rfl 1 rfl ?_
      refine wa_getr gX9_holdsWords_4 (rfl) rfl ?_
      refine wa_iload_n dX9_holdsWords_7 rfl 2 rfl ?_
      refine wa_cVi (m_sizeN 1 6 60 TB_rows r hr) vX5_size iX9_holdsWords_8 (rfl) rfl rfl rfl (Nat.le_of_ble_eq_true rfl) ⟨by decide, by decide⟩ ?_
      refine wa_eqi (y := (nI (z))) (by rw [show M.1 (1 + 2 + 6) r = nI z from hz1, nI_clamp (by omega)]) ?_
      refine wa_icmp_geN (a := i) (b := z) 46 dX9_holdsWords_11 (by decide) (by omega) (by omega) (fun c_11 => ?_) (fun c_11 => ?_)
      · refine wa_iconst (1) dX9_holdsWords_46 (by decide) ?_
        exact wa_zret dX9_holdsWords_47 rfl (by decide) ⟨congrArg (fun z => some (Value.int z)) (by unfold hwB; rw [wAll_t (fun j hj => hall j (by omega))]; rfl), rfl⟩
      · refine wa_aload_n dX9_holdsWords_14 rfl 1 rfl ?_
        refine wa_getr gX9_holdsWords_15 (rfl) rfl ?_
        refine wa_iload_n dX9_holdsWords_18 rfl 2 rfl ?_
        refine wa_iload_n dX9_holdsWords_19 rfl 0 rfl ?_
        refine wa_cVi (m_getN 1 6 60 TB_rows r i z hr (by omega) hz1 hz9) vX5_get iX9_holdsWords_20 (rfl) rfl rfl rfl (Nat.le_of_ble_eq_true rfl) ⟨by decide, by decide⟩ ?_
        refine wa_eqi (y := (M.1 (3 + r) i)) (if_pos c_11) ?_
        refine wa_istore [(4, .int (M.1 (3 + r) i)), (3, .int (nI (i))), (0, wm_r G (0)), (1, .int (nI (r))), (2, .int (least))] dX9_holdsWords_23 (by decide) rfl ?_
        refine wa_iload dX9_holdsWords_25 0 rfl ?_
        refine wa_iload_n dX9_holdsWords_27 rfl 4 rfl ?_
        refine wa_icmp_lt 38 dX9_holdsWords_28 (by decide) (fun c_28 => ?_) (fun c_28 => ?_)
        · refine wa_iconst (0) dX9_holdsWords_38 (by decide) ?_
          exact wa_zret dX9_holdsWords_39 rfl (by decide) ⟨congrArg (fun z => some (Value.int z)) (by unfold hwB; rw [wAll_f c_11 (by first | (simp [c_28]; done) | (simp [Int32.not_lt.mpr c_35]; done) | simp_all)]; rfl), rfl⟩
        · refine wa_iload dX9_holdsWords_31 0 rfl ?_
          refine wa_bipush (8) dX9_holdsWords_33 (by decide) ?_
          refine wa_icmp_lt 40 dX9_holdsWords_35 (by decide) (fun c_35 => ?_) (fun c_35 => ?_)
          · have hp : (!decide (M.1 (3 + r) i < least) && decide (M.1 (3 + r) i < 8)) = true := by simp only [c_28, decide_false, Bool.not_false, Bool.true_and]; exact decide_eq_true c_35
            refine wa_iinc ((nI (i + 1))) [(3, .int (nI (i + 1))), (4, .int (M.1 (3 + r) i)), (0, wm_r G (0)), (1, .int (nI (r))), (2, .int (least))] dX9_holdsWords_40 1 rfl (nI_inc _) (by decide) rfl ?_
            refine wa_goto 2 dX9_holdsWords_43 (by decide) ?_
            refine wa_sub [0, 2, 3, 4] rfl ?_
            exact ih_2 (i + 1) (by omega) (by omega) (fun j hj => by rcases Nat.lt_or_eq_of_le (Nat.le_of_lt_succ hj) with q | q; (exact hall j q); (subst q; exact hp))
          · refine wa_iconst (0) dX9_holdsWords_38 (by decide) ?_
            exact wa_zret dX9_holdsWords_39 rfl (by decide) ⟨congrArg (fun z => some (Value.int z)) (by unfold hwB; rw [wAll_f c_11 (by first | (simp [c_28]; done) | (simp [Int32.not_lt.mpr c_35]; done) | simp_all)]; rfl), rfl⟩
  exact L_2 _ 0 (Nat.lt_succ_self _) (Nat.zero_le _) (fun j hj => absurd hj (Nat.not_lt_zero _))

theorem c_law_bad1 {G : wm_G} {M : wm_M} (l r : Int32) (hl : wIn l 4 = false) : MD G t_X9_law [wm_r G (0), .int (l), .int (r)] (M) (some (.int (-1))) (M) := by
  refine wm_met (by decide) (Nat.le_of_ble_eq_true rfl) ?_
  show WA G t_X9_law (fun v_ N_ => v_ = some (.int (-1)) ∧ N_ = M) 0 [(0, wm_r G (0)), (1, .int (l)), (2, .int (r))] [] (M)
  refine wa_aload_n dX9_law_0 rfl 0 rfl ?_
  refine wa_getr gX9_law_1 (rfl) rfl ?_
  refine wa_getr gX9_law_4 (rfl) rfl ?_
  refine wa_iload_n dX9_law_7 rfl 1 rfl ?_
  refine wa_cVi (m_knows 29 4 3 TB_laws l) vX5_knows iX9_law_8 (rfl) rfl rfl rfl (Nat.le_of_ble_eq_true rfl) ⟨by decide, by decide⟩ ?_
  refine wa_eqi (y := (0)) (by rw [hl]; rfl) ?_
  refine wa_if_ne 16 dX9_law_11 (by decide) (fun c_11 => absurd c_11 (by decide)) (fun c_11 => ?_)
  refine wa_iconst (-1) dX9_law_14 (by decide) ?_
  exact wa_iret dX9_law_15 rfl ⟨congrArg (fun z => some (Value.int z)) (rfl), rfl⟩

theorem c_law_bad2 {G : wm_G} {M : wm_M} (l : Nat) (hl : l < 4) (r : Int32) (hr : wIn r 6 = false) : MD G t_X9_law [wm_r G (0), .int (nI (l)), .int (r)] (M) (some (.int (-1))) (M) := by
  refine wm_met (by decide) (Nat.le_of_ble_eq_true rfl) ?_
  show WA G t_X9_law (fun v_ N_ => v_ = some (.int (-1)) ∧ N_ = M) 0 [(0, wm_r G (0)), (1, .int (nI (l))), (2, .int (r))] [] (M)
  refine wa_aload_n dX9_law_0 rfl 0 rfl ?_
  refine wa_getr gX9_law_1 (rfl) rfl ?_
  refine wa_getr gX9_law_4 (rfl) rfl ?_
  refine wa_iload_n dX9_law_7 rfl 1 rfl ?_
  refine wa_cVi (m_knowsN 29 4 3 TB_laws l hl) vX5_knows iX9_law_8 (rfl) rfl rfl rfl (Nat.le_of_ble_eq_true rfl) ⟨by decide, by decide⟩ ?_
  refine wa_if_ne 16 dX9_law_11 (by decide) (fun c_11 => ?_) (fun c_11 => absurd c_11 (by decide))
  refine wa_aload_n dX9_law_16 rfl 0 rfl ?_
  refine wa_aload_n dX9_law_17 rfl 0 rfl ?_
  refine wa_getr gX9_law_18 (rfl) rfl ?_
  refine wa_iload_n dX9_law_21 rfl 2 rfl ?_
  refine wa_cVi (m_ref_bad 1 6 60 TB_rows r hr) vX9_refusal iX9_law_22 (rfl) rfl rfl rfl (Nat.le_of_ble_eq_true rfl) ⟨by decide, by decide⟩ ?_
  refine wa_istore_n [(3, .int (-1)), (0, wm_r G (0)), (1, .int (nI (l))), (2, .int (r))] dX9_law_25 rfl (by decide) rfl ?_
  refine wa_iload_n dX9_law_26 rfl 0 rfl ?_
  refine wa_if_eq 32 dX9_law_27 (by decide) (fun c_27 => absurd c_27 (by decide)) (fun c_27 => ?_)
  refine wa_iload_n dX9_law_30 rfl 0 rfl ?_
  exact wa_iret dX9_law_31 rfl ⟨congrArg (fun z => some (Value.int z)) (rfl), rfl⟩

theorem c_law_no {G : wm_G} {M : wm_M} (l : Nat) (hl : l < 4) (r : Nat) (hr : r < 6) (hz : M.1 9 r = -1) : MD G t_X9_law [wm_r G (0), .int (nI (l)), .int (nI (r))] (M) (some (.int (-3))) (tNote M 1) := by
  refine wm_met (by decide) (Nat.le_of_ble_eq_true rfl) ?_
  show WA G t_X9_law (fun v_ N_ => v_ = some (.int (-3)) ∧ N_ = tNote M 1) 0 [(0, wm_r G (0)), (1, .int (nI (l))), (2, .int (nI (r)))] [] (M)
  refine wa_aload_n dX9_law_0 rfl 0 rfl ?_
  refine wa_getr gX9_law_1 (rfl) rfl ?_
  refine wa_getr gX9_law_4 (rfl) rfl ?_
  refine wa_iload_n dX9_law_7 rfl 1 rfl ?_
  refine wa_cVi (m_knowsN 29 4 3 TB_laws l hl) vX5_knows iX9_law_8 (rfl) rfl rfl rfl (Nat.le_of_ble_eq_true rfl) ⟨by decide, by decide⟩ ?_
  refine wa_if_ne 16 dX9_law_11 (by decide) (fun c_11 => ?_) (fun c_11 => absurd c_11 (by decide))
  refine wa_aload_n dX9_law_16 rfl 0 rfl ?_
  refine wa_aload_n dX9_law_17 rfl 0 rfl ?_
  refine wa_getr gX9_law_18 (rfl) rfl ?_
  refine wa_iload_n dX9_law_21 rfl 2 rfl ?_
  refine wa_cVi (m_ref_no 1 6 60 TB_rows r hr hz) vX9_refusal iX9_law_22 (rfl) rfl rfl rfl (Nat.le_of_ble_eq_true rfl) ⟨by decide, by decide⟩ ?_
  refine wa_istore_n [(3, .int (-3)), (0, wm_r G (0)), (1, .int (nI (l))), (2, .int (nI (r)))] dX9_law_25 rfl (by decide) rfl ?_
  refine wa_iload_n dX9_law_26 rfl 0 rfl ?_
  refine wa_if_eq 32 dX9_law_27 (by decide) (fun c_27 => absurd c_27 (by decide)) (fun c_27 => ?_)
  refine wa_iload_n dX9_law_30 rfl 0 rfl ?_
  exact wa_iret dX9_law_31 rfl ⟨congrArg (fun z => some (Value.int z)) (rfl), rfl⟩

theorem c_law_size {G : wm_G} {M : wm_M} (l : Nat) (hl : l < 4) (r : Nat) (hr : r < 6) (z : Nat) (hz1 : M.1 9 r = nI z) (hz9 : z ≤ 60) (hn : z = 0 ∨ 3 < z) : MD G t_X9_law [wm_r G (0), .int (nI (l)), .int (nI (r))] (M) (some (.int (-3))) (tNote M 5) := by
  have hz : ¬ M.1 9 r = -1 := by rw [hz1]; exact nI_nem1 (by omega)
  refine wm_met (by decide) (Nat.le_of_ble_eq_true rfl) ?_
  show WA G t_X9_law (fun v_ N_ => v_ = some (.int (-3)) ∧ N_ = tNote M 5) 0 [(0, wm_r G (0)), (1, .int (nI (l))), (2, .int (nI (r)))] [] (M)
  refine wa_aload_n dX9_law_0 rfl 0 rfl ?_
  refine wa_getr gX9_law_1 (rfl) rfl ?_
  refine wa_getr gX9_law_4 (rfl) rfl ?_
  refine wa_iload_n dX9_law_7 rfl 1 rfl ?_
  refine wa_cVi (m_knowsN 29 4 3 TB_laws l hl) vX5_knows iX9_law_8 (rfl) rfl rfl rfl (Nat.le_of_ble_eq_true rfl) ⟨by decide, by decide⟩ ?_
  refine wa_if_ne 16 dX9_law_11 (by decide) (fun c_11 => ?_) (fun c_11 => absurd c_11 (by decide))
  refine wa_aload_n dX9_law_16 rfl 0 rfl ?_
  refine wa_aload_n dX9_law_17 rfl 0 rfl ?_
  refine wa_getr gX9_law_18 (rfl) rfl ?_
  refine wa_iload_n dX9_law_21 rfl 2 rfl ?_
  refine wa_cVi (m_ref_ok 1 6 60 TB_rows r hr hz) vX9_refusal iX9_law_22 (rfl) rfl rfl rfl (Nat.le_of_ble_eq_true rfl) ⟨by decide, by decide⟩ ?_
  refine wa_istore_n [(3, .int (0)), (0, wm_r G (0)), (1, .int (nI (l))), (2, .int (nI (r)))] dX9_law_25 rfl (by decide) rfl ?_
  refine wa_iload_n dX9_law_26 rfl 0 rfl ?_
  refine wa_if_eq 32 dX9_law_27 (by decide) (fun c_27 => ?_) (fun c_27 => absurd c_27 (by decide))
  refine wa_aload_n dX9_law_32 rfl 1 rfl ?_
  refine wa_getr gX9_law_33 (rfl) rfl ?_
  refine wa_iload_n dX9_law_36 rfl 3 rfl ?_
  refine wa_cVi (m_sizeN 1 6 60 TB_rows r hr) vX5_size iX9_law_37 (rfl) rfl rfl rfl (Nat.le_of_ble_eq_true rfl) ⟨by decide, by decide⟩ ?_
  refine wa_eqi (y := (nI (z))) (by rw [show M.1 (1 + 2 + 6) r = nI z from hz1, nI_clamp (by omega)]) ?_
  refine wa_istore [(4, .int (nI (z))), (3, .int (0)), (0, wm_r G (0)), (1, .int (nI (l))), (2, .int (nI (r)))] dX9_law_40 (by decide) rfl ?_
  refine wa_iload dX9_law_42 0 rfl ?_
  refine wa_iconst (1) dX9_law_44 (by decide) ?_
  refine wa_icmp_ltN (a := z) (b := 1) 54 dX9_law_45 (by decide) (by omega) (by omega) (fun c_45 => ?_) (fun c_45 => ?_)
  · refine wa_aload_n dX9_law_54 rfl 2 rfl ?_
    refine wa_iconst (5) dX9_law_55 (by decide) ?_
    refine wa_cVi (m_find 5 (by decide) (by decide)) vX9_find iX9_law_56 (rfl) rfl rfl rfl (Nat.le_of_ble_eq_true rfl) ⟨by decide, by decide⟩ ?_
    exact wa_iret dX9_law_59 rfl ⟨congrArg (fun z => some (Value.int z)) (rfl), rfl⟩
  · refine wa_iload dX9_law_48 0 rfl ?_
    refine wa_iconst (3) dX9_law_50 (by decide) ?_
    refine wa_icmp_leN (a := z) (b := 3) 60 dX9_law_51 (by decide) (by omega) (by omega) (fun c_51 => absurd hn (by omega)) (fun c_51 => ?_)
    refine wa_aload_n dX9_law_54 rfl 2 rfl ?_
    refine wa_iconst (5) dX9_law_55 (by decide) ?_
    refine wa_cVi (m_find 5 (by decide) (by decide)) vX9_find iX9_law_56 (rfl) rfl rfl rfl (Nat.le_of_ble_eq_true rfl) ⟨by decide, by decide⟩ ?_
    exact wa_iret dX9_law_59 rfl ⟨congrArg (fun z => some (Value.int z)) (rfl), rfl⟩

theorem c_law_un {G : wm_G} {M : wm_M} (l : Nat) (hl : l < 4) (r : Nat) (hr : r < 6) (z : Nat) (hz1 : M.1 9 r = nI z) (hz9 : z ≤ 60) (hn : 1 ≤ z) (hn3 : z ≤ 3) (hq : hwB (M.1 (3 + r)) 0 z = false) : MD G t_X9_law [wm_r G (0), .int (nI (l)), .int (nI (r))] (M) (some (.int (-3))) (tNote M 3) := by
  have hz : ¬ M.1 9 r = -1 := by rw [hz1]; exact nI_nem1 (by omega)
  refine wm_met (by decide) (Nat.le_of_ble_eq_true rfl) ?_
  show WA G t_X9_law (fun v_ N_ => v_ = some (.int (-3)) ∧ N_ = tNote M 3) 0 [(0, wm_r G (0)), (1, .int (nI (l))), (2, .int (nI (r)))] [] (M)
  refine wa_aload_n dX9_law_0 rfl 0 rfl ?_
  refine wa_getr gX9_law_1 (rfl) rfl ?_
  refine wa_getr gX9_law_4 (rfl) rfl ?_
  refine wa_iload_n dX9_law_7 rfl 1 rfl ?_
  refine wa_cVi (m_knowsN 29 4 3 TB_laws l hl) vX5_knows iX9_law_8 (rfl) rfl rfl rfl (Nat.le_of_ble_eq_true rfl) ⟨by decide, by decide⟩ ?_
  refine wa_if_ne 16 dX9_law_11 (by decide) (fun c_11 => ?_) (fun c_11 => absurd c_11 (by decide))
  refine wa_aload_n dX9_law_16 rfl 0 rfl ?_
  refine wa_aload_n dX9_law_17 rfl 0 rfl ?_
  refine wa_getr gX9_law_18 (rfl) rfl ?_
  refine wa_iload_n dX9_law_21 rfl 2 rfl ?_
  refine wa_cVi (m_ref_ok 1 6 60 TB_rows r hr hz) vX9_refusal iX9_law_22 (rfl) rfl rfl rfl (Nat.le_of_ble_eq_true rfl) ⟨by decide, by decide⟩ ?_
  refine wa_istore_n [(3, .int (0)), (0, wm_r G (0)), (1, .int (nI (l))), (2, .int (nI (r)))] dX9_law_25 rfl (by decide) rfl ?_
  refine wa_iload_n dX9_law_26 rfl 0 rfl ?_
  refine wa_if_eq 32 dX9_law_27 (by decide) (fun c_27 => ?_) (fun c_27 => absurd c_27 (by decide))
  refine wa_aload_n dX9_law_32 rfl 1 rfl ?_
  refine wa_getr gX9_law_33 (rfl) rfl ?_
  refine wa_iload_n dX9_law_36 rfl 3 rfl ?_
  refine wa_cVi (m_sizeN 1 6 60 TB_rows r hr) vX5_size iX9_law_37 (rfl) rfl rfl rfl (Nat.le_of_ble_eq_true rfl) ⟨by decide, by decide⟩ ?_
  refine wa_eqi (y := (nI (z))) (by rw [show M.1 (1 + 2 + 6) r = nI z from hz1, nI_clamp (by omega)]) ?_
  refine wa_istore [(4, .int (nI (z))), (3, .int (0)), (0, wm_r G (0)), (1, .int (nI (l))), (2, .int (nI (r)))] dX9_law_40 (by decide) rfl ?_
  refine wa_iload dX9_law_42 0 rfl ?_
  refine wa_iconst (1) dX9_law_44 (by decide) ?_
  refine wa_icmp_ltN (a := z) (b := 1) 54 dX9_law_45 (by decide) (by omega) (by omega) (fun c_45 => absurd c_45 (by omega)) (fun c_45 => ?_)
  refine wa_iload dX9_law_48 0 rfl ?_
  refine wa_iconst (3) dX9_law_50 (by decide) ?_
  refine wa_icmp_leN (a := z) (b := 3) 60 dX9_law_51 (by decide) (by omega) (by omega) (fun c_51 => ?_) (fun c_51 => absurd c_51 (by omega))
  refine wa_aload_n dX9_law_60 rfl 2 rfl ?_
  refine wa_iload_n dX9_law_61 rfl 4 rfl ?_
  refine wa_iconst (0) dX9_law_62 (by decide) ?_
  refine wa_cVi (m_holdsWords r hr z hz1 hz9 (0)) vX9_holdsWords iX9_law_63 (rfl) rfl rfl rfl (Nat.le_of_ble_eq_true rfl) ⟨by decide, by decide⟩ ?_
  refine wa_eqi (y := (0)) (by rw [hq]; rfl) ?_
  refine wa_if_ne 75 dX9_law_66 (by decide) (fun c_66 => absurd c_66 (by decide)) (fun c_66 => ?_)
  refine wa_aload_n dX9_law_69 rfl 2 rfl ?_
  refine wa_iconst (3) dX9_law_70 (by decide) ?_
  refine wa_cVi (m_find 3 (by decide) (by decide)) vX9_find iX9_law_71 (rfl) rfl rfl rfl (Nat.le_of_ble_eq_true rfl) ⟨by decide, by decide⟩ ?_
  exact wa_iret dX9_law_74 rfl ⟨congrArg (fun z => some (Value.int z)) (rfl), rfl⟩

theorem c_law_ok {G : wm_G} {M : wm_M} (w h rn s yr : Nat) (ci : CI M w h rn s yr) (l : Nat) (hl : l < 4) (r : Nat) (hr : r < 6) (z : Nat) (hz1 : M.1 9 r = nI z) (hz9 : z ≤ 60) (hn : 1 ≤ z) (hn3 : z ≤ 3) (hq : hwB (M.1 (3 + r)) 0 z = true) : MA G t_X9_law [wm_r G (0), .int (nI (l)), .int (nI (r))] (M) (fun v N => v = some (.int (nI z)) ∧ Fr [37] [38 + 2 * l + 1] (lwM M l r z) N ∧ ∀ s, s < 4096 → sb (N.2.1 (38 + 2 * l + 1)) s = stL (lwM M l r z) w h l s) := by
  obtain ⟨⟨hW, hwh⟩, hSt, ⟨h12, h13, hyr, hs4, hsh⟩, hRo, hTx, hLw, hKp, hRO, ⟨hL1, hL10, hL29, hL58⟩, hSe, hDy⟩ := id ci
  have hn6 := TW_n hW
  have hs : s < 4096 := Nat.lt_of_lt_of_le hs4 (p4_le hn6)
  have hw3 := hW.2.2.1
  have hh2 := hW.2.2.2
  have hz : ¬ M.1 9 r = -1 := by rw [hz1]; exact nI_nem1 (by omega)
  have hLZ : LZ (lwM M l r z) l z := ⟨hl, by unfold lwM; rw [wIa_n (by omega), wI_at], hn, hn3⟩
  refine wm_met (by decide) (Nat.le_of_ble_eq_true rfl) ?_
  show WA G t_X9_law (fun v N => v = some (.int (nI z)) ∧ Fr [37] [38 + 2 * l + 1] (lwM M l r z) N ∧ ∀ s, s < 4096 → sb (N.2.1 (38 + 2 * l + 1)) s = stL (lwM M l r z) w h l s) 0 [(0, wm_r G (0)), (1, .int (nI (l))), (2, .int (nI (r)))] [] (M)
  refine wa_aload_n dX9_law_0 rfl 0 rfl ?_
  refine wa_getr gX9_law_1 (rfl) rfl ?_
  refine wa_getr gX9_law_4 (rfl) rfl ?_
  refine wa_iload_n dX9_law_7 rfl 1 rfl ?_
  refine wa_cVi (m_knowsN 29 4 3 TB_laws l hl) vX5_knows iX9_law_8 (rfl) rfl rfl rfl (Nat.le_of_ble_eq_true rfl) ⟨by decide, by decide⟩ ?_
  refine wa_if_ne 16 dX9_law_11 (by decide) (fun c_11 => ?_) (fun c_11 => absurd c_11 (by decide))
  refine wa_aload_n dX9_law_16 rfl 0 rfl ?_
  refine wa_aload_n dX9_law_17 rfl 0 rfl ?_
  refine wa_getr gX9_law_18 (rfl) rfl ?_
  refine wa_iload_n dX9_law_21 rfl 2 rfl ?_
  refine wa_cVi (m_ref_ok 1 6 60 TB_rows r hr hz) vX9_refusal iX9_law_22 (rfl) rfl rfl rfl (Nat.le_of_ble_eq_true rfl) ⟨by decide, by decide⟩ ?_
  refine wa_istore_n [(3, .int (0)), (0, wm_r G (0)), (1, .int (nI (l))), (2, .int (nI (r)))] dX9_law_25 rfl (by decide) rfl ?_
  refine wa_iload_n dX9_law_26 rfl 0 rfl ?_
  refine wa_if_eq 32 dX9_law_27 (by decide) (fun c_27 => ?_) (fun c_27 => absurd c_27 (by decide))
  refine wa_aload_n dX9_law_32 rfl 1 rfl ?_
  refine wa_getr gX9_law_33 (rfl) rfl ?_
  refine wa_iload_n dX9_law_36 rfl 3 rfl ?_
  refine wa_cVi (m_sizeN 1 6 60 TB_rows r hr) vX5_size iX9_law_37 (rfl) rfl rfl rfl (Nat.le_of_ble_eq_true rfl) ⟨by decide, by decide⟩ ?_
  refine wa_eqi (y := (nI (z))) (by rw [show M.1 (1 + 2 + 6) r = nI z from hz1, nI_clamp (by omega)]) ?_
  refine wa_istore [(4, .int (nI (z))), (3, .int (0)), (0, wm_r G (0)), (1, .int (nI (l))), (2, .int (nI (r)))] dX9_law_40 (by decide) rfl ?_
  refine wa_iload dX9_law_42 0 rfl ?_
  refine wa_iconst (1) dX9_law_44 (by decide) ?_
  refine wa_icmp_ltN (a := z) (b := 1) 54 dX9_law_45 (by decide) (by omega) (by omega) (fun c_45 => absurd c_45 (by omega)) (fun c_45 => ?_)
  refine wa_iload dX9_law_48 0 rfl ?_
  refine wa_iconst (3) dX9_law_50 (by decide) ?_
  refine wa_icmp_leN (a := z) (b := 3) 60 dX9_law_51 (by decide) (by omega) (by omega) (fun c_51 => ?_) (fun c_51 => absurd c_51 (by omega))
  refine wa_aload_n dX9_law_60 rfl 2 rfl ?_
  refine wa_iload_n dX9_law_61 rfl 4 rfl ?_
  refine wa_iconst (0) dX9_law_62 (by decide) ?_
  refine wa_cVi (m_holdsWords r hr z hz1 hz9 (0)) vX9_holdsWords iX9_law_63 (rfl) rfl rfl rfl (Nat.le_of_ble_eq_true rfl) ⟨by decide, by decide⟩ ?_
  refine wa_eqi (y := (1)) (by rw [hq]; rfl) ?_
  refine wa_if_ne 75 dX9_law_66 (by decide) (fun c_66 => ?_) (fun c_66 => absurd c_66 (by decide))
  refine wa_aload_n dX9_law_75 rfl 2 rfl ?_
  refine wa_getr gX9_law_76 (rfl) rfl ?_
  refine wa_getr gX9_law_79 (rfl) rfl ?_
  refine wa_iload_n dX9_law_82 rfl 3 rfl ?_
  refine wa_aload_n dX9_law_83 rfl 2 rfl ?_
  refine wa_getr gX9_law_84 (rfl) rfl ?_
  refine wa_iload_n dX9_law_87 rfl 4 rfl ?_
  refine wa_cVv (m_takeN 29 4 3 TB_laws l r z hl hr (by decide) hz1 (by omega) hn3 hL29) vX5_take iX9_law_88 (rfl) rfl rfl rfl (Nat.le_of_ble_eq_true rfl) ⟨by decide, by decide⟩ ?_
  refine wa_aload_n dX9_law_91 rfl 2 rfl ?_
  refine wa_getr gX9_law_92 (rfl) rfl ?_
  refine wa_iload_n dX9_law_95 rfl 3 rfl ?_
  refine wa_callV (m_rebuild (M := lwM M l r z) w h (hW.fr (by unfold lwM; rw [wIa_n (by omega), wI_c (by decide)])) l hl (Or.inr ⟨z, hLZ⟩)) vX0_rebuild iX9_law_96 (rfl) rfl rfl rfl (Nat.le_of_ble_eq_true rfl) ⟨by decide, by decide⟩ (fun v_ N h_ => ?_)
  obtain ⟨rfl, hF, hset⟩ := h_
  show WA G t_X9_law (fun v N => v = some (.int (nI z)) ∧ Fr [37] [38 + 2 * l + 1] (lwM M l r z) N ∧ ∀ s, s < 4096 → sb (N.2.1 (38 + 2 * l + 1)) s = stL (lwM M l r z) w h l s) 99 [(4, .int (nI (z))), (3, .int (0)), (0, wm_r G (0)), (1, .int (nI (l))), (2, .int (nI (r)))] [] (N)
  refine wa_iload dX9_law_99 0 rfl ?_
  refine wa_iret dX9_law_101 rfl ?_
  exact ⟨rfl, hF, hset⟩

theorem m_isSE {G : wm_G} {M : wm_M} (w h rn s yr : Nat) (ci : CI M w h rn s yr) (st e : Int32) : MD G t_X9_isStreetEnd [wm_r G (0), .int (st), .int (e)] (M) (some (.int (wB (wIn st (w + h) && wIn e 2)))) (M) := by
  obtain ⟨⟨hW, hwh⟩, hSt, ⟨h12, h13, hyr, hs4, hsh⟩, hRo, hTx, hLw, hKp, hRO, ⟨hL1, hL10, hL29, hL58⟩, hSe, hDy⟩ := id ci
  have hn6 := TW_n hW
  have hs : s < 4096 := Nat.lt_of_lt_of_le hs4 (p4_le hn6)
  have hw3 := hW.2.2.1
  have hh2 := hW.2.2.2
  refine wm_met (by decide) (Nat.le_of_ble_eq_true rfl) ?_
  show WA G t_X9_isStreetEnd (fun v_ N_ => v_ = some (.int (wB (wIn st (w + h) && wIn e 2))) ∧ N_ = M) 0 [(0, wm_r G (0)), (1, .int (st)), (2, .int (e))] [] (M)
  refine wa_iload_n dX9_isStreetEnd_0 rfl 1 rfl ?_
  refine wa_if_lt 28 dX9_isStreetEnd_1 (by decide) (fun c_1 => ?_) (fun c_1 => ?_)
  · refine wa_iconst (0) dX9_isStreetEnd_28 (by decide) ?_
    exact wa_zret dX9_isStreetEnd_29 rfl (by decide) ⟨congrArg (fun z => some (Value.int z)) (by first | (rw [wIn_neg c_1]; rfl) | (rw [wIn_ge (by omega) c_12]; rfl) | (rw [wIn_neg c_16, Bool.and_false]; rfl) | (rw [wIn_ge (m := 2) (by decide) c_21, Bool.and_false]; rfl) | (rw [wIn_of (by omega) c_1 c_12, wIn_of (m := 2) (by decide) c_16 c_21]; rfl)), rfl⟩
  · refine wa_iload_n dX9_isStreetEnd_4 rfl 1 rfl ?_
    refine wa_aload_n dX9_isStreetEnd_5 rfl 0 rfl ?_
    refine wa_getr gX9_isStreetEnd_6 (rfl) rfl ?_
    refine wa_cVi (m_streets w h hW) vX4_streets iX9_isStreetEnd_9 (rfl) rfl rfl rfl (Nat.le_of_ble_eq_true rfl) ⟨by decide, by decide⟩ ?_
    refine wa_icmp_ge 28 dX9_isStreetEnd_12 (by decide) (fun c_12 => ?_) (fun c_12 => ?_)
    · refine wa_iconst (0) dX9_isStreetEnd_28 (by decide) ?_
      exact wa_zret dX9_isStreetEnd_29 rfl (by decide) ⟨congrArg (fun z => some (Value.int z)) (by first | (rw [wIn_neg c_1]; rfl) | (rw [wIn_ge (by omega) c_12]; rfl) | (rw [wIn_neg c_16, Bool.and_false]; rfl) | (rw [wIn_ge (m := 2) (by decide) c_21, Bool.and_false]; rfl) | (rw [wIn_of (by omega) c_1 c_12, wIn_of (m := 2) (by decide) c_16 c_21]; rfl)), rfl⟩
    · refine wa_iload_n dX9_isStreetEnd_15 rfl 2 rfl ?_
      refine wa_if_lt 28 dX9_isStreetEnd_16 (by decide) (fun c_16 => ?_) (fun c_16 => ?_)
      · refine wa_iconst (0) dX9_isStreetEnd_28 (by decide) ?_
        exact wa_zret dX9_isStreetEnd_29 rfl (by decide) ⟨congrArg (fun z => some (Value.int z)) (by first | (rw [wIn_neg c_1]; rfl) | (rw [wIn_ge (by omega) c_12]; rfl) | (rw [wIn_neg c_16, Bool.and_false]; rfl) | (rw [wIn_ge (m := 2) (by decide) c_21, Bool.and_false]; rfl) | (rw [wIn_of (by omega) c_1 c_12, wIn_of (m := 2) (by decide) c_16 c_21]; rfl)), rfl⟩
      · refine wa_iload_n dX9_isStreetEnd_19 rfl 2 rfl ?_
        refine wa_iconst (2) dX9_isStreetEnd_20 (by decide) ?_
        refine wa_icmp_ge 28 dX9_isStreetEnd_21 (by decide) (fun c_21 => ?_) (fun c_21 => ?_)
        · refine wa_iconst (0) dX9_isStreetEnd_28 (by decide) ?_
          exact wa_zret dX9_isStreetEnd_29 rfl (by decide) ⟨congrArg (fun z => some (Value.int z)) (by first | (rw [wIn_neg c_1]; rfl) | (rw [wIn_ge (by omega) c_12]; rfl) | (rw [wIn_neg c_16, Bool.and_false]; rfl) | (rw [wIn_ge (m := 2) (by decide) c_21, Bool.and_false]; rfl) | (rw [wIn_of (by omega) c_1 c_12, wIn_of (m := 2) (by decide) c_16 c_21]; rfl)), rfl⟩
        · refine wa_iconst (1) dX9_isStreetEnd_24 (by decide) ?_
          refine wa_goto 29 dX9_isStreetEnd_25 (by decide) ?_
          exact wa_zret dX9_isStreetEnd_29 rfl (by decide) ⟨congrArg (fun z => some (Value.int z)) (by first | (rw [wIn_neg c_1]; rfl) | (rw [wIn_ge (by omega) c_12]; rfl) | (rw [wIn_neg c_16, Bool.and_false]; rfl) | (rw [wIn_ge (m := 2) (by decide) c_21, Bool.and_false]; rfl) | (rw [wIn_of (by omega) c_1 c_12, wIn_of (m := 2) (by decide) c_16 c_21]; rfl)), rfl⟩

theorem c_reads_bad1 {G : wm_G} {M : wm_M} (w h rn s yr : Nat) (ci : CI M w h rn s yr) (st e r : Int32) (hb : (wIn st (w + h) && wIn e 2) = false) : MD G t_X9_reads [wm_r G (0), .int (st), .int (e), .int (r)] (M) (some (.int (-1))) (M) := by
  refine wm_met (by decide) (Nat.le_of_ble_eq_true rfl) ?_
  show WA G t_X9_reads (fun v_ N_ => v_ = some (.int (-1)) ∧ N_ = M) 0 [(0, wm_r G (0)), (1, .int (st)), (2, .int (e)), (3, .int (r))] [] (M)
  refine wa_aload_n dX9_reads_0 rfl 0 rfl ?_
  refine wa_iload_n dX9_reads_1 rfl 1 rfl ?_
  refine wa_iload_n dX9_reads_2 rfl 2 rfl ?_
  refine wa_cVi (m_isSE w h rn s yr ci st e) vX9_isStreetEnd iX9_reads_3 (rfl) rfl rfl rfl (Nat.le_of_ble_eq_true rfl) ⟨by decide, by decide⟩ ?_
  refine wa_eqi (y := (0)) (by rw [hb]; rfl) ?_
  refine wa_if_eq 20 dX9_reads_6 (by decide) (fun c_6 => ?_) (fun c_6 => absurd c_6 (by decide))
  refine wa_iconst (-1) dX9_reads_20 (by decide) ?_
  exact wa_iret dX9_reads_21 rfl ⟨congrArg (fun z => some (Value.int z)) (rfl), rfl⟩

theorem c_reads_bad2 {G : wm_G} {M : wm_M} (w h rn s yr : Nat) (ci : CI M w h rn s yr) (st e : Nat) (hst : st < w + h) (he : e < 2) (r : Int32) (hr : wIn r 6 = false) : MD G t_X9_reads [wm_r G (0), .int (nI (st)), .int (nI (e)), .int (r)] (M) (some (.int (-1))) (M) := by
  obtain ⟨⟨hW, hwh⟩, hSt, ⟨h12, h13, hyr, hs4, hsh⟩, hRo, hTx, hLw, hKp, hRO, ⟨hL1, hL10, hL29, hL58⟩, hSe, hDy⟩ := id ci
  have hn6 := TW_n hW
  have hs : s < 4096 := Nat.lt_of_lt_of_le hs4 (p4_le hn6)
  have hw3 := hW.2.2.1
  have hh2 := hW.2.2.2
  refine wm_met (by decide) (Nat.le_of_ble_eq_true rfl) ?_
  show WA G t_X9_reads (fun v_ N_ => v_ = some (.int (-1)) ∧ N_ = M) 0 [(0, wm_r G (0)), (1, .int (nI (st))), (2, .int (nI (e))), (3, .int (r))] [] (M)
  refine wa_aload_n dX9_reads_0 rfl 0 rfl ?_
  refine wa_iload_n dX9_reads_1 rfl 1 rfl ?_
  refine wa_iload_n dX9_reads_2 rfl 2 rfl ?_
  refine wa_cVi (m_isSE w h rn s yr ci (nI st) (nI e)) vX9_isStreetEnd iX9_reads_3 (rfl) rfl rfl rfl (Nat.le_of_ble_eq_true rfl) ⟨by decide, by decide⟩ ?_
  refine wa_eqi (y := (1)) (by rw [wIn_nI (by omega), wIn_nI (by omega), decide_eq_true hst, decide_eq_true he]; rfl) ?_
  refine wa_if_eq 20 dX9_reads_6 (by decide) (fun c_6 => absurd c_6 (by decide)) (fun c_6 => ?_)
  refine wa_aload_n dX9_reads_9 rfl 0 rfl ?_
  refine wa_getr gX9_reads_10 (rfl) rfl ?_
  refine wa_iload_n dX9_reads_13 rfl 3 rfl ?_
  refine wa_cVi (m_knows 1 6 60 TB_rows r) vX5_knows iX9_reads_14 (rfl) rfl rfl rfl (Nat.le_of_ble_eq_true rfl) ⟨by decide, by decide⟩ ?_
  refine wa_eqi (y := (0)) (by rw [hr]; rfl) ?_
  refine wa_if_ne 22 dX9_reads_17 (by decide) (fun c_17 => absurd c_17 (by decide)) (fun c_17 => ?_)
  refine wa_iconst (-1) dX9_reads_20 (by decide) ?_
  exact wa_iret dX9_reads_21 rfl ⟨congrArg (fun z => some (Value.int z)) (rfl), rfl⟩

theorem c_reads_ok {G : wm_G} {M : wm_M} (w h rn s yr : Nat) (ci : CI M w h rn s yr) (st e : Nat) (hst : st < w + h) (he : e < 2) (r : Nat) (hr : r < 6) : MD G t_X9_reads [wm_r G (0), .int (nI (st)), .int (nI (e)), .int (nI (r))] (M) (some (.int (nI (wCnt (fun i => !decide (wordR M w h s st e i = -1)) (sLen w h st))))) (wIa (wI M 9 r (nI (sLen w h st))) (3 + r) (wTo (wordR M w h s st e) (M.1 (3 + r)) (sLen w h st))) := by
  obtain ⟨⟨hW, hwh⟩, hSt, ⟨h12, h13, hyr, hs4, hsh⟩, hRo, hTx, hLw, hKp, hRO, ⟨hL1, hL10, hL29, hL58⟩, hSe, hDy⟩ := id ci
  have hn6 := TW_n hW
  have hs : s < 4096 := Nat.lt_of_lt_of_le hs4 (p4_le hn6)
  have hw3 := hW.2.2.1
  have hh2 := hW.2.2.2
  have hlen : sLen w h st ≤ 3 := by unfold sLen; split <;> omega
  refine wm_met (by decide) (Nat.le_of_ble_eq_true rfl) ?_
  show WA G t_X9_reads (fun v_ N_ => v_ = some (.int (nI (wCnt (fun i => !decide (wordR M w h s st e i = -1)) (sLen w h st)))) ∧ N_ = wIa (wI M 9 r (nI (sLen w h st))) (3 + r) (wTo (wordR M w h s st e) (M.1 (3 + r)) (sLen w h st))) 0 [(0, wm_r G (0)), (1, .int (nI (st))), (2, .int (nI (e))), (3, .int (nI (r)))] [] (M)
  refine wa_aload_n dX9_reads_0 rfl 0 rfl ?_
  refine wa_iload_n dX9_reads_1 rfl 1 rfl ?_
  refine wa_iload_n dX9_reads_2 rfl 2 rfl ?_
  refine wa_cVi (m_isSE w h rn s yr ci (nI st) (nI e)) vX9_isStreetEnd iX9_reads_3 (rfl) rfl rfl rfl (Nat.le_of_ble_eq_true rfl) ⟨by decide, by decide⟩ ?_
  refine wa_eqi (y := (1)) (by rw [wIn_nI (by omega), wIn_nI (by omega), decide_eq_true hst, decide_eq_true he]; rfl) ?_
  refine wa_if_eq 20 dX9_reads_6 (by decide) (fun c_6 => absurd c_6 (by decide)) (fun c_6 => ?_)
  refine wa_aload_n dX9_reads_9 rfl 0 rfl ?_
  refine wa_getr gX9_reads_10 (rfl) rfl ?_
  refine wa_iload_n dX9_reads_13 rfl 3 rfl ?_
  refine wa_cVi (m_knowsN 1 6 60 TB_rows r hr) vX5_knows iX9_reads_14 (rfl) rfl rfl rfl (Nat.le_of_ble_eq_true rfl) ⟨by decide, by decide⟩ ?_
  refine wa_if_ne 22 dX9_reads_17 (by decide) (fun c_17 => ?_) (fun c_17 => absurd c_17 (by decide))
  refine wa_aload_n dX9_reads_22 rfl 0 rfl ?_
  refine wa_getr gX9_reads_23 (rfl) rfl ?_
  refine wa_iload_n dX9_reads_26 rfl 1 rfl ?_
  refine wa_cVi (m_length w h hW st (by omega)) vX4_length iX9_reads_27 (rfl) rfl rfl rfl (Nat.le_of_ble_eq_true rfl) ⟨by decide, by decide⟩ ?_
  refine wa_istore [(4, .int (nI (sLen w h st))), (0, wm_r G (0)), (1, .int (nI (st))), (2, .int (nI (e))), (3, .int (nI (r)))] dX9_reads_30 (by decide) rfl ?_
  refine wa_iconst (0) dX9_reads_32 (by decide) ?_
  refine wa_eqi (y := (nI (wCnt (fun i => !decide (wordR M w h s st e i = -1)) 0))) (rfl) ?_
  refine wa_istore [(5, .int (nI (wCnt (fun i => !decide (wordR M w h s st e i = -1)) 0))), (4, .int (nI (sLen w h st))), (0, wm_r G (0)), (1, .int (nI (st))), (2, .int (nI (e))), (3, .int (nI (r)))] dX9_reads_33 (by decide) rfl ?_
  refine wa_aload_n dX9_reads_35 rfl 2 rfl ?_
  refine wa_getr gX9_reads_36 (rfl) rfl ?_
  refine wa_iload_n dX9_reads_39 rfl 5 rfl ?_
  refine wa_iload dX9_reads_40 1 rfl ?_
  refine wa_iconst (-1) dX9_reads_42 (by decide) ?_
  refine wa_cVv (m_beginN 1 6 60 TB_rows r (sLen w h st) (-1) hr (by omega) hL1) vX5_begin iX9_reads_43 (rfl) rfl rfl rfl (Nat.le_of_ble_eq_true rfl) ⟨by decide, by decide⟩ ?_
  refine wa_eqm (M' := wIa (wI M 9 r (nI (sLen w h st))) (3 + r) (wTo (wordR M w h s st e) (wFill (M.1 (3 + r)) 0 (sLen w h st) (-1)) 0)) (by rw [wTo_0]) ?_
  refine wa_iconst (0) dX9_reads_46 (by decide) ?_
  refine wa_istore [(6, .int (0)), (5, .int (nI (wCnt (fun i => !decide (wordR M w h s st e i = -1)) 0))), (4, .int (nI (sLen w h st))), (0, wm_r G (0)), (1, .int (nI (st))), (2, .int (nI (e))), (3, .int (nI (r)))] dX9_reads_47 (by decide) rfl ?_
  have L_49 : ∀ (n_ : Nat) (i : Nat), (sLen w h st - i) < n_ → (i ≤ sLen w h st) → WA G t_X9_reads (fun v_ N_ => v_ = some (.int (nI (wCnt (fun i => !decide (wordR M w h s st e i = -1)) (sLen w h st)))) ∧ N_ = wIa (wI M 9 r (nI (sLen w h st))) (3 + r) (wTo (wordR M w h s st e) (M.1 (3 + r)) (sLen w h st))) 49 [(6, .int (nI (i))), (5, .int (nI (wCnt (fun i => !decide (wordR M w h s st e i = -1)) i))), (4, .int (nI (sLen w h st))), (0, wm_r G (0)), (1, .int (nI (st))), (2, .int (nI (e))), (3, .int (nI (r)))] [] (wIa (wI M 9 r (nI (sLen w h st))) (3 + r) (wTo (wordR M w h s st e) (wFill (M.1 (3 + r)) 0 (sLen w h st) (-1)) i)) := by
    intro n_
    induction n_ with
    | zero => intro i h_; exact absurd h_ (Nat.not_lt_zero _)
    | succ n_ ih_49 =>
      intro i h_ hi
      have g17 : (wIa (wI M 9 r (nI (sLen w h st))) (3 + r) (wTo (wordR M w h s st e) (wFill (M.1 (3 + r)) 0 (sLen w h st) (-1)) i)).1 17 = M.1 17 := by rw [wIa_n (by omega), wI_c (by decide)]
      have g18 : (wIa (wI M 9 r (nI (sLen w h st))) (3 + r) (wTo (wordR M w h s st e) (wFill (M.1 (3 + r)) 0 (sLen w h st) (-1)) i)).1 18 = M.1 18 := by rw [wIa_n (by omega), wI_c (by decide)]
      have g19 : (wIa (wI M 9 r (nI (sLen w h st))) (3 + r) (wTo (wordR M w h s st e) (wFill (M.1 (3 + r)) 0 (sLen w h st) (-1)) i)).1 19 = M.1 19 := by rw [wIa_n (by omega), wI_c (by decide)]
      have hWi := hW.fr g17
      refine wa_iload dX9_reads_49 0 rfl ?_
      refine wa_iload dX9_reads_51 2 rfl ?_
      refine wa_icmp_geN (a := i) (b := sLen w h st) 122 dX9_reads_53 (by decide) (by omega) (by omega) (fun c_53 => ?_) (fun c_53 => ?_)
      · refine wa_iload dX9_reads_122 1 rfl ?_
        exact wa_iret dX9_reads_124 rfl ⟨congrArg (fun z => some (Value.int z)) (by rw [show i = sLen w h st by omega]), by rw [show i = sLen w h st by omega, wTo_fillv]⟩
      · refine wa_aload_n dX9_reads_56 rfl 3 rfl ?_
        refine wa_getr gX9_reads_57 (rfl) rfl ?_
        refine wa_iload_n dX9_reads_60 rfl 4 rfl ?_
        refine wa_iload_n dX9_reads_61 rfl 5 rfl ?_
        refine wa_iload dX9_reads_62 0 rfl ?_
        refine wa_cVi (m_stoneAt w h hWi st e i (by omega) he c_53) vX4_stoneAt iX9_reads_64 (rfl) rfl rfl rfl (Nat.le_of_ble_eq_true rfl) ⟨by decide, by decide⟩ ?_
        have hsa := sAt_lt (e := e) hst c_53
        refine wa_istore [(7, .int (nI (sAt w h st e i))), (6, .int (nI (i))), (5, .int (nI (wCnt (fun i => !decide (wordR M w h s st e i = -1)) i))), (4, .int (nI (sLen w h st))), (0, wm_r G (0)), (1, .int (nI (st))), (2, .int (nI (e))), (3, .int (nI (r)))] dX9_reads_67 (by decide) rfl ?_
        refine wa_aload_n dX9_reads_69 rfl 4 rfl ?_
        refine wa_getr gX9_reads_70 (rfl) rfl ?_
        refine wa_iload dX9_reads_73 0 rfl ?_
        refine wa_aload_n dX9_reads_75 rfl 4 rfl ?_
        refine wa_getr gX9_reads_76 (rfl) rfl ?_
        refine wa_aload_n dX9_reads_79 rfl 4 rfl ?_
        refine wa_geti gX9_reads_80 (rfl) rfl ?_
        refine wa_eqi (y := (nI (s))) (by rw [wIa_n (by omega), wI_c (by decide)]; exact h12) ?_
        refine wa_iload dX9_reads_83 0 rfl ?_
        refine wa_iload_n dX9_reads_85 rfl 5 rfl ?_
        refine wa_iload_n dX9_reads_86 rfl 6 rfl ?_
        refine wa_cVi (m_sideRead w h hWi s (sAt w h st e i) st e hs (by omega) (by omega) he) vX4_sideRead iX9_reads_87 (rfl) rfl rfl rfl (Nat.le_of_ble_eq_true rfl) ⟨by decide, by decide⟩ ?_
        refine wa_cVi (m_shown (sAt w h st e i) ((sQ s (sAt w h st e i) + sFst h st e) % 4) (by omega) (Nat.mod_lt _ (by decide))) vX4_shown iX9_reads_90 (rfl) rfl rfl rfl (Nat.le_of_ble_eq_true rfl) ⟨by decide, by decide⟩ ?_
        refine wa_eqi (y := (wordR M w h s st e i)) (by rw [g18, g19]; rfl) ?_
        refine wa_istore [(8, .int (wordR M w h s st e i)), (7, .int (nI (sAt w h st e i))), (6, .int (nI (i))), (5, .int (nI (wCnt (fun i => !decide (wordR M w h s st e i = -1)) i))), (4, .int (nI (sLen w h st))), (0, wm_r G (0)), (1, .int (nI (st))), (2, .int (nI (e))), (3, .int (nI (r)))] dX9_reads_93 (by decide) rfl ?_
        refine wa_aload_n dX9_reads_95 rfl 5 rfl ?_
        refine wa_getr gX9_reads_96 (rfl) rfl ?_
        refine wa_iload_n dX9_reads_99 rfl 8 rfl ?_
        refine wa_iload dX9_reads_100 2 rfl ?_
        refine wa_iload dX9_reads_102 0 rfl ?_
        refine wa_cVv (m_setN 1 6 60 TB_rows r i (sLen w h st) (wordR M w h s st e i) hr c_53 (by rw [wIa_n (by omega), wI_at]) (by omega)) vX5_set iX9_reads_104 (rfl) rfl rfl rfl (Nat.le_of_ble_eq_true rfl) ⟨by decide, by decide⟩ ?_
        refine wa_eqm (M' := wIa (wI M 9 r (nI (sLen w h st))) (3 + r) (wTo (wordR M w h s st e) (wFill (M.1 (3 + r)) 0 (sLen w h st) (-1)) (i + 1))) (by rw [wI_wIa, wTo_s rfl]) ?_
        refine wa_iload dX9_reads_107 0 rfl ?_
        refine wa_iconst (-1) dX9_reads_109 (by decide) ?_
        refine wa_icmp_eq 116 dX9_reads_110 (by decide) (fun c_110 => ?_) (fun c_110 => ?_)
        · refine wa_iinc ((nI (i + 1))) [(6, .int (nI (i + 1))), (8, .int (wordR M w h s st e i)), (7, .int (nI (sAt w h st e i))), (5, .int (nI (wCnt (fun i => !decide (wordR M w h s st e i = -1)) i))), (4, .int (nI (sLen w h st))), (0, wm_r G (0)), (1, .int (nI (st))), (2, .int (nI (e))), (3, .int (nI (r)))] dX9_reads_116 2 rfl (nI_inc _) (by decide) rfl ?_
          refine wa_goto 49 dX9_reads_119 (by decide) ?_
          refine wa_sub [0, 3, 4, 5, 6, 7, 8] rfl ?_
          first | rw [show wCnt (fun i => !decide (wordR M w h s st e i = -1)) i + 1 = wCnt (fun i => !decide (wordR M w h s st e i = -1)) (i + 1) by simp only [wCnt]; rw [if_pos (by simp [c_110])]] | rw [show wCnt (fun i => !decide (wordR M w h s st e i = -1)) i = wCnt (fun i => !decide (wordR M w h s st e i = -1)) (i + 1) by simp only [wCnt]; rw [if_neg (by simp [c_110])]; rfl]
          exact ih_49 (i + 1) (by omega) (by omega)
        · refine wa_iinc ((nI (wCnt (fun i => !decide (wordR M w h s st e i = -1)) i + 1))) [(5, .int (nI (wCnt (fun i => !decide (wordR M w h s st e i = -1)) i + 1))), (8, .int (wordR M w h s st e i)), (7, .int (nI (sAt w h st e i))), (6, .int (nI (i))), (4, .int (nI (sLen w h st))), (0, wm_r G (0)), (1, .int (nI (st))), (2, .int (nI (e))), (3, .int (nI (r)))] dX9_reads_113 3 rfl (nI_inc _) (by decide) rfl ?_
          refine wa_iinc ((nI (i + 1))) [(6, .int (nI (i + 1))), (5, .int (nI (wCnt (fun i => !decide (wordR M w h s st e i = -1)) i + 1))), (8, .int (wordR M w h s st e i)), (7, .int (nI (sAt w h st e i))), (4, .int (nI (sLen w h st))), (0, wm_r G (0)), (1, .int (nI (st))), (2, .int (nI (e))), (3, .int (nI (r)))] dX9_reads_116 3 rfl (nI_inc _) (by decide) rfl ?_
          refine wa_goto 49 dX9_reads_119 (by decide) ?_
          refine wa_sub [0, 1, 4, 5, 6, 7, 8] rfl ?_
          first | rw [show wCnt (fun i => !decide (wordR M w h s st e i = -1)) i + 1 = wCnt (fun i => !decide (wordR M w h s st e i = -1)) (i + 1) by simp only [wCnt]; rw [if_pos (by simp [c_110])]] | rw [show wCnt (fun i => !decide (wordR M w h s st e i = -1)) i = wCnt (fun i => !decide (wordR M w h s st e i = -1)) (i + 1) by simp only [wCnt]; rw [if_neg (by simp [c_110])]; rfl]
          exact ih_49 (i + 1) (by omega) (by omega)
  exact L_49 _ 0 (Nat.lt_succ_self _) (Nat.zero_le _)
