theorem x_law_bad1 {G : wm_G} {M : wm_M} (l r : Int32) (hl : wIn l 4 = false) : MD G t_X10_law [wm_r G (96), .int (l), .int (r)] (M) (some (.int (-1))) (M) := by
  refine wm_met (by decide) (Nat.le_of_ble_eq_true rfl) ?_
  show WA G t_X10_law (fun v_ N_ => v_ = some (.int (-1)) ∧ N_ = M) 0 [(0, wm_r G (96)), (1, .int (l)), (2, .int (r))] [] (M)
  refine wa_iload_n dX10_law_0 rfl 1 rfl ?_
  refine wa_cSi (x_isLaw l) vX10_isLaw iX10_law_1 rfl rfl (Nat.le_of_ble_eq_true rfl) ⟨by decide, by decide⟩ ?_
  refine wa_eqi (y := (0)) (by rw [hl]; rfl) ?_
  refine wa_if_eq 14 dX10_law_4 (by decide) (fun c_4 => ?_) (fun c_4 => absurd c_4 (by decide))
  refine wa_iconst (-1) dX10_law_14 (by decide) ?_
  exact wa_iret dX10_law_15 rfl ⟨congrArg (fun z => some (Value.int z)) (rfl), rfl⟩

theorem x_law_bad2 {G : wm_G} {M : wm_M} (l : Nat) (hl : l < 4) (r : Int32) (hr : wIn r 6 = false) : MD G t_X10_law [wm_r G (96), .int (nI (l)), .int (r)] (M) (some (.int (-1))) (M) := by
  refine wm_met (by decide) (Nat.le_of_ble_eq_true rfl) ?_
  show WA G t_X10_law (fun v_ N_ => v_ = some (.int (-1)) ∧ N_ = M) 0 [(0, wm_r G (96)), (1, .int (nI (l))), (2, .int (r))] [] (M)
  refine wa_iload_n dX10_law_0 rfl 1 rfl ?_
  refine wa_cSi (x_isLaw (nI l)) vX10_isLaw iX10_law_1 rfl rfl (Nat.le_of_ble_eq_true rfl) ⟨by decide, by decide⟩ ?_
  refine wa_eqi (y := (1)) (by rw [wIn_nI (by omega), decide_eq_true (by omega)]; rfl) ?_
  refine wa_if_eq 14 dX10_law_4 (by decide) (fun c_4 => absurd c_4 (by decide)) (fun c_4 => ?_)
  refine wa_iload_n dX10_law_7 rfl 2 rfl ?_
  refine wa_cSi (x_isRow r) vX10_isRow iX10_law_8 rfl rfl (Nat.le_of_ble_eq_true rfl) ⟨by decide, by decide⟩ ?_
  refine wa_eqi (y := (0)) (by rw [hr]; rfl) ?_
  refine wa_if_ne 16 dX10_law_11 (by decide) (fun c_11 => absurd c_11 (by decide)) (fun c_11 => ?_)
  refine wa_iconst (-1) dX10_law_14 (by decide) ?_
  exact wa_iret dX10_law_15 rfl ⟨congrArg (fun z => some (Value.int z)) (rfl), rfl⟩

theorem x_law_no {G : wm_G} {M : wm_M} (l : Nat) (hl : l < 4) (r : Nat) (hr : r < 6) (hz : M.1 98 r = -1) : MD G t_X10_law [wm_r G (96), .int (nI (l)), .int (nI (r))] (M) (some (.int (-3))) (xNote M 1) := by
  refine wm_met (by decide) (Nat.le_of_ble_eq_true rfl) ?_
  show WA G t_X10_law (fun v_ N_ => v_ = some (.int (-3)) ∧ N_ = xNote M 1) 0 [(0, wm_r G (96)), (1, .int (nI (l))), (2, .int (nI (r)))] [] (M)
  refine wa_iload_n dX10_law_0 rfl 1 rfl ?_
  refine wa_cSi (x_isLaw (nI l)) vX10_isLaw iX10_law_1 rfl rfl (Nat.le_of_ble_eq_true rfl) ⟨by decide, by decide⟩ ?_
  refine wa_eqi (y := (1)) (by rw [wIn_nI (by omega), decide_eq_true (by omega)]; rfl) ?_
  refine wa_if_eq 14 dX10_law_4 (by decide) (fun c_4 => absurd c_4 (by decide)) (fun c_4 => ?_)
  refine wa_iload_n dX10_law_7 rfl 2 rfl ?_
  refine wa_cSi (x_isRow (nI r)) vX10_isRow iX10_law_8 rfl rfl (Nat.le_of_ble_eq_true rfl) ⟨by decide, by decide⟩ ?_
  refine wa_eqi (y := (1)) (by rw [wIn_nI (by omega), decide_eq_true (by omega)]; rfl) ?_
  refine wa_if_ne 16 dX10_law_11 (by decide) (fun c_11 => ?_) (fun c_11 => absurd c_11 (by decide))
  refine wa_aload_n dX10_law_16 rfl 0 rfl ?_
  refine wa_getr gX10_law_17 (rfl) rfl ?_
  refine wa_iload_n dX10_law_20 rfl 2 rfl ?_
  refine wa_ialdN (e := r) dX10_law_21 (rfl) (by omega) (by decide) ?_
  refine wa_eqi (y := (-1)) (hz) ?_
  refine wa_if_ge 31 dX10_law_22 (by decide) (fun c_22 => absurd c_22 (by decide)) (fun c_22 => ?_)
  refine wa_aload_n dX10_law_25 rfl 0 rfl ?_
  refine wa_iconst (1) dX10_law_26 (by decide) ?_
  refine wa_cVi (x_meets 1 (by decide) (by decide)) vX10_meets iX10_law_27 (rfl) rfl rfl rfl (Nat.le_of_ble_eq_true rfl) ⟨by decide, by decide⟩ ?_
  exact wa_iret dX10_law_30 rfl ⟨congrArg (fun z => some (Value.int z)) (rfl), rfl⟩

theorem x_law_size {G : wm_G} {M : wm_M} (l : Nat) (hl : l < 4) (r : Nat) (hr : r < 6) (z : Nat) (hz1 : M.1 98 r = nI z) (hz9 : z ≤ 60) (hn : z = 0 ∨ 3 < z) : MD G t_X10_law [wm_r G (96), .int (nI (l)), .int (nI (r))] (M) (some (.int (-3))) (xNote M 5) := by
  refine wm_met (by decide) (Nat.le_of_ble_eq_true rfl) ?_
  show WA G t_X10_law (fun v_ N_ => v_ = some (.int (-3)) ∧ N_ = xNote M 5) 0 [(0, wm_r G (96)), (1, .int (nI (l))), (2, .int (nI (r)))] [] (M)
  refine wa_iload_n dX10_law_0 rfl 1 rfl ?_
  refine wa_cSi (x_isLaw (nI l)) vX10_isLaw iX10_law_1 rfl rfl (Nat.le_of_ble_eq_true rfl) ⟨by decide, by decide⟩ ?_
  refine wa_eqi (y := (1)) (by rw [wIn_nI (by omega), decide_eq_true (by omega)]; rfl) ?_
  refine wa_if_eq 14 dX10_law_4 (by decide) (fun c_4 => absurd c_4 (by decide)) (fun c_4 => ?_)
  refine wa_iload_n dX10_law_7 rfl 2 rfl ?_
  refine wa_cSi (x_isRow (nI r)) vX10_isRow iX10_law_8 rfl rfl (Nat.le_of_ble_eq_true rfl) ⟨by decide, by decide⟩ ?_
  refine wa_eqi (y := (1)) (by rw [wIn_nI (by omega), decide_eq_true (by omega)]; rfl) ?_
  refine wa_if_ne 16 dX10_law_11 (by decide) (fun c_11 => ?_) (fun c_11 => absurd c_11 (by decide))
  refine wa_aload_n dX10_law_16 rfl 0 rfl ?_
  refine wa_getr gX10_law_17 (rfl) rfl ?_
  refine wa_iload_n dX10_law_20 rfl 2 rfl ?_
  refine wa_ialdN (e := r) dX10_law_21 (rfl) (by omega) (by decide) ?_
  refine wa_eqi (y := (nI (z))) (hz1) ?_
  refine wa_if_geN (a := z) 31 dX10_law_22 (by decide) (by omega) (fun c_22 => ?_) (fun c_22 => absurd c_22 (by omega))
  refine wa_aload_n dX10_law_31 rfl 0 rfl ?_
  refine wa_getr gX10_law_32 (rfl) rfl ?_
  refine wa_iload_n dX10_law_35 rfl 2 rfl ?_
  refine wa_ialdN (e := r) dX10_law_36 (rfl) (by omega) (by decide) ?_
  refine wa_eqi (y := (nI (z))) (hz1) ?_
  refine wa_iconst (1) dX10_law_37 (by decide) ?_
  refine wa_iconst (3) dX10_law_38 (by decide) ?_
  refine wa_cSi (x_in (nI z) 1 3) vX10_in iX10_law_39 rfl rfl (Nat.le_of_ble_eq_true rfl) ⟨by decide, by decide⟩ ?_
  refine wa_eqi (y := (0)) (by rw [show inC (nI z) 1 3 = decide (1 ≤ z ∧ z ≤ 3) from in13 hz9, decide_eq_false (by omega)]; rfl) ?_
  refine wa_if_ne 51 dX10_law_42 (by decide) (fun c_42 => absurd c_42 (by decide)) (fun c_42 => ?_)
  refine wa_aload_n dX10_law_45 rfl 0 rfl ?_
  refine wa_iconst (5) dX10_law_46 (by decide) ?_
  refine wa_cVi (x_meets 5 (by decide) (by decide)) vX10_meets iX10_law_47 (rfl) rfl rfl rfl (Nat.le_of_ble_eq_true rfl) ⟨by decide, by decide⟩ ?_
  exact wa_iret dX10_law_50 rfl ⟨congrArg (fun z => some (Value.int z)) (rfl), rfl⟩

theorem x_law_un {G : wm_G} {M : wm_M} (l : Nat) (hl : l < 4) (r : Nat) (hr : r < 6) (z : Nat) (hz1 : M.1 98 r = nI z) (hz9 : z ≤ 60) (hn : 1 ≤ z) (hn3 : z ≤ 3) (hg : wAll (fun i => inC (M.1 99 (60 * r + i)) 0 7) z = false) : MD G t_X10_law [wm_r G (96), .int (nI (l)), .int (nI (r))] (M) (some (.int (-3))) (xNote M 3) := by
  refine wm_met (by decide) (Nat.le_of_ble_eq_true rfl) ?_
  show WA G t_X10_law (fun v_ N_ => v_ = some (.int (-3)) ∧ N_ = xNote M 3) 0 [(0, wm_r G (96)), (1, .int (nI (l))), (2, .int (nI (r)))] [] (M)
  refine wa_iload_n dX10_law_0 rfl 1 rfl ?_
  refine wa_cSi (x_isLaw (nI l)) vX10_isLaw iX10_law_1 rfl rfl (Nat.le_of_ble_eq_true rfl) ⟨by decide, by decide⟩ ?_
  refine wa_eqi (y := (1)) (by rw [wIn_nI (by omega), decide_eq_true (by omega)]; rfl) ?_
  refine wa_if_eq 14 dX10_law_4 (by decide) (fun c_4 => absurd c_4 (by decide)) (fun c_4 => ?_)
  refine wa_iload_n dX10_law_7 rfl 2 rfl ?_
  refine wa_cSi (x_isRow (nI r)) vX10_isRow iX10_law_8 rfl rfl (Nat.le_of_ble_eq_true rfl) ⟨by decide, by decide⟩ ?_
  refine wa_eqi (y := (1)) (by rw [wIn_nI (by omega), decide_eq_true (by omega)]; rfl) ?_
  refine wa_if_ne 16 dX10_law_11 (by decide) (fun c_11 => ?_) (fun c_11 => absurd c_11 (by decide))
  refine wa_aload_n dX10_law_16 rfl 0 rfl ?_
  refine wa_getr gX10_law_17 (rfl) rfl ?_
  refine wa_iload_n dX10_law_20 rfl 2 rfl ?_
  refine wa_ialdN (e := r) dX10_law_21 (rfl) (by omega) (by decide) ?_
  refine wa_eqi (y := (nI (z))) (hz1) ?_
  refine wa_if_geN (a := z) 31 dX10_law_22 (by decide) (by omega) (fun c_22 => ?_) (fun c_22 => absurd c_22 (by omega))
  refine wa_aload_n dX10_law_31 rfl 0 rfl ?_
  refine wa_getr gX10_law_32 (rfl) rfl ?_
  refine wa_iload_n dX10_law_35 rfl 2 rfl ?_
  refine wa_ialdN (e := r) dX10_law_36 (rfl) (by omega) (by decide) ?_
  refine wa_eqi (y := (nI (z))) (hz1) ?_
  refine wa_iconst (1) dX10_law_37 (by decide) ?_
  refine wa_iconst (3) dX10_law_38 (by decide) ?_
  refine wa_cSi (x_in (nI z) 1 3) vX10_in iX10_law_39 rfl rfl (Nat.le_of_ble_eq_true rfl) ⟨by decide, by decide⟩ ?_
  refine wa_eqi (y := (1)) (by rw [show inC (nI z) 1 3 = decide (1 ≤ z ∧ z ≤ 3) from in13 hz9, decide_eq_true ⟨hn, hn3⟩]; rfl) ?_
  refine wa_if_ne 51 dX10_law_42 (by decide) (fun c_42 => ?_) (fun c_42 => absurd c_42 (by decide))
  refine wa_iconst (1) dX10_law_51 (by decide) ?_
  refine wa_eqi (y := (wB (wAll (fun i => inC (M.1 99 (60 * r + i)) 0 7) 0))) (rfl) ?_
  refine wa_istore_n [(3, .int (wB (wAll (fun i => inC (M.1 99 (60 * r + i)) 0 7) 0))), (0, wm_r G (96)), (1, .int (nI (l))), (2, .int (nI (r)))] dX10_law_52 rfl (by decide) rfl ?_
  refine wa_iconst (0) dX10_law_53 (by decide) ?_
  refine wa_istore [(4, .int (0)), (3, .int (wB (wAll (fun i => inC (M.1 99 (60 * r + i)) 0 7) 0))), (0, wm_r G (96)), (1, .int (nI (l))), (2, .int (nI (r)))] dX10_law_54 (by decide) rfl ?_
  have L_56 : ∀ (n_ : Nat) (i : Nat), (z - i) < n_ → (i ≤ z) → WA G t_X10_law (fun v_ N_ => v_ = some (.int (-3)) ∧ N_ = xNote M 3) 56 [(4, .int (nI (i))), (3, .int (wB (wAll (fun i => inC (M.1 99 (60 * r + i)) 0 7) i))), (0, wm_r G (96)), (1, .int (nI (l))), (2, .int (nI (r)))] [] (M) := by
    intro n_
    induction n_ with
    | zero => intro i h_; exact absurd h_ (Nat.not_lt_zero _)
    | succ n_ ih_56 =>
      intro i h_ hi
      refine wa_iload dX10_law_56 0 rfl ?_
      refine wa_aload_n dX10_law_58 rfl 2 rfl ?_
      refine wa_getr gX10_law_59 (rfl) rfl ?_
      refine wa_iload_n dX10_law_62 rfl 4 rfl ?_
      refine wa_ialdN (e := r) dX10_law_63 (rfl) (by omega) (by decide) ?_
      refine wa_eqi (y := (nI (z))) (hz1) ?_
      refine wa_icmp_geN (a := i) (b := z) 99 dX10_law_64 (by decide) (by omega) (by omega) (fun c_64 => ?_) (fun c_64 => ?_)
      · refine wa_iload_n dX10_law_99 rfl 1 rfl ?_
        refine wa_if_neB 109 dX10_law_100 (by decide) (fun c_100 => absurd c_100 (by rw [show i = z by omega, hg]; decide)) (fun c_100 => ?_)
        refine wa_aload_n dX10_law_103 rfl 2 rfl ?_
        refine wa_iconst (3) dX10_law_104 (by decide) ?_
        refine wa_cVi (x_meets 3 (by decide) (by decide)) vX10_meets iX10_law_105 (rfl) rfl rfl rfl (Nat.le_of_ble_eq_true rfl) ⟨by decide, by decide⟩ ?_
        exact wa_iret dX10_law_108 rfl ⟨congrArg (fun z => some (Value.int z)) (rfl), rfl⟩
      · refine wa_iload_n dX10_law_67 rfl 1 rfl ?_
        refine wa_if_eqB 91 dX10_law_68 (by decide) (fun (c_68 : (wAll (fun i => inC (M.1 99 (60 * r + i)) 0 7) i) = false) => ?_) (fun (c_68 : (wAll (fun i => inC (M.1 99 (60 * r + i)) 0 7) i) = true) => ?_)
        · refine wa_iconst (0) dX10_law_91 (by decide) ?_
          refine wa_eqi (y := (wB (wAll (fun i => inC (M.1 99 (60 * r + i)) 0 7) (i + 1)))) (by rw [wAll_s]; first | (rw [c_68]; rfl) | (rw [c_68, c_84]; rfl)) ?_
          refine wa_istore_n [(3, .int (wB (wAll (fun i => inC (M.1 99 (60 * r + i)) 0 7) (i + 1)))), (4, .int (nI (i))), (0, wm_r G (96)), (1, .int (nI (l))), (2, .int (nI (r)))] dX10_law_92 rfl (by decide) rfl ?_
          refine wa_iinc ((nI (i + 1))) [(4, .int (nI (i + 1))), (3, .int (wB (wAll (fun i => inC (M.1 99 (60 * r + i)) 0 7) (i + 1)))), (0, wm_r G (96)), (1, .int (nI (l))), (2, .int (nI (r)))] dX10_law_93 1 rfl (nI_inc _) (by decide) rfl ?_
          refine wa_goto 56 dX10_law_96 (by decide) ?_
          exact ih_56 (i + 1) (by omega) (by omega)
        · refine wa_aload_n dX10_law_71 rfl 2 rfl ?_
          refine wa_iload_n dX10_law_72 rfl 4 rfl ?_
          refine wa_iload dX10_law_73 0 rfl ?_
          refine wa_cVi (x_rowAt r i hr (by omega)) vX10_rowAt iX10_law_75 (rfl) rfl rfl rfl (Nat.le_of_ble_eq_true rfl) ⟨by decide, by decide⟩ ?_
          refine wa_iconst (0) dX10_law_78 (by decide) ?_
          refine wa_bipush (7) dX10_law_79 (by decide) ?_
          refine wa_cSi (x_in (M.1 99 (60 * r + i)) 0 7) vX10_in iX10_law_81 rfl rfl (Nat.le_of_ble_eq_true rfl) ⟨by decide, by decide⟩ ?_
          refine wa_if_eqB 91 dX10_law_84 (by decide) (fun (c_84 : (inC (M.1 99 (60 * r + i)) 0 7) = false) => ?_) (fun (c_84 : (inC (M.1 99 (60 * r + i)) 0 7) = true) => ?_)
          · refine wa_iconst (0) dX10_law_91 (by decide) ?_
            refine wa_eqi (y := (wB (wAll (fun i => inC (M.1 99 (60 * r + i)) 0 7) (i + 1)))) (by rw [wAll_s]; first | (rw [c_68]; rfl) | (rw [c_68, c_84]; rfl)) ?_
            refine wa_istore_n [(3, .int (wB (wAll (fun i => inC (M.1 99 (60 * r + i)) 0 7) (i + 1)))), (4, .int (nI (i))), (0, wm_r G (96)), (1, .int (nI (l))), (2, .int (nI (r)))] dX10_law_92 rfl (by decide) rfl ?_
            refine wa_iinc ((nI (i + 1))) [(4, .int (nI (i + 1))), (3, .int (wB (wAll (fun i => inC (M.1 99 (60 * r + i)) 0 7) (i + 1)))), (0, wm_r G (96)), (1, .int (nI (l))), (2, .int (nI (r)))] dX10_law_93 1 rfl (nI_inc _) (by decide) rfl ?_
            refine wa_goto 56 dX10_law_96 (by decide) ?_
            exact ih_56 (i + 1) (by omega) (by omega)
          · refine wa_iconst (1) dX10_law_87 (by decide) ?_
            refine wa_goto 92 dX10_law_88 (by decide) ?_
            refine wa_eqi (y := (wB (wAll (fun i => inC (M.1 99 (60 * r + i)) 0 7) (i + 1)))) (by rw [wAll_s]; first | (rw [c_68]; rfl) | (rw [c_68, c_84]; rfl)) ?_
            refine wa_istore_n [(3, .int (wB (wAll (fun i => inC (M.1 99 (60 * r + i)) 0 7) (i + 1)))), (4, .int (nI (i))), (0, wm_r G (96)), (1, .int (nI (l))), (2, .int (nI (r)))] dX10_law_92 rfl (by decide) rfl ?_
            refine wa_iinc ((nI (i + 1))) [(4, .int (nI (i + 1))), (3, .int (wB (wAll (fun i => inC (M.1 99 (60 * r + i)) 0 7) (i + 1)))), (0, wm_r G (96)), (1, .int (nI (l))), (2, .int (nI (r)))] dX10_law_93 1 rfl (nI_inc _) (by decide) rfl ?_
            refine wa_goto 56 dX10_law_96 (by decide) ?_
            exact ih_56 (i + 1) (by omega) (by omega)
  exact L_56 _ 0 (Nat.lt_succ_self _) (Nat.zero_le _)

theorem x_law_ok {G : wm_G} {M : wm_M} (l : Nat) (hl : l < 4) (r : Nat) (hr : r < 6) (z : Nat) (hz1 : M.1 98 r = nI z) (hz9 : z ≤ 60) (hn : 1 ≤ z) (hn3 : z ≤ 3) (hg : wAll (fun i => inC (M.1 99 (60 * r + i)) 0 7) z = true) : MD G t_X10_law [wm_r G (96), .int (nI (l)), .int (nI (r))] (M) (some (.int (nI (z)))) (wIa (wI M 109 l (nI z)) 110 (sgF (M.1 110) (fun i => if i < z then M.1 99 (60 * r + i) else 0) (3 * l) (3))) := by
  refine wm_met (by decide) (Nat.le_of_ble_eq_true rfl) ?_
  show WA G t_X10_law (fun v_ N_ => v_ = some (.int (nI (z))) ∧ N_ = wIa (wI M 109 l (nI z)) 110 (sgF (M.1 110) (fun i => if i < z then M.1 99 (60 * r + i) else 0) (3 * l) (3))) 0 [(0, wm_r G (96)), (1, .int (nI (l))), (2, .int (nI (r)))] [] (M)
  refine wa_iload_n dX10_law_0 rfl 1 rfl ?_
  refine wa_cSi (x_isLaw (nI l)) vX10_isLaw iX10_law_1 rfl rfl (Nat.le_of_ble_eq_true rfl) ⟨by decide, by decide⟩ ?_
  refine wa_eqi (y := (1)) (by rw [wIn_nI (by omega), decide_eq_true (by omega)]; rfl) ?_
  refine wa_if_eq 14 dX10_law_4 (by decide) (fun c_4 => absurd c_4 (by decide)) (fun c_4 => ?_)
  refine wa_iload_n dX10_law_7 rfl 2 rfl ?_
  refine wa_cSi (x_isRow (nI r)) vX10_isRow iX10_law_8 rfl rfl (Nat.le_of_ble_eq_true rfl) ⟨by decide, by decide⟩ ?_
  refine wa_eqi (y := (1)) (by rw [wIn_nI (by omega), decide_eq_true (by omega)]; rfl) ?_
  refine wa_if_ne 16 dX10_law_11 (by decide) (fun c_11 => ?_) (fun c_11 => absurd c_11 (by decide))
  refine wa_aload_n dX10_law_16 rfl 0 rfl ?_
  refine wa_getr gX10_law_17 (rfl) rfl ?_
  refine wa_iload_n dX10_law_20 rfl 2 rfl ?_
  refine wa_ialdN (e := r) dX10_law_21 (rfl) (by omega) (by decide) ?_
  refine wa_eqi (y := (nI (z))) (hz1) ?_
  refine wa_if_geN (a := z) 31 dX10_law_22 (by decide) (by omega) (fun c_22 => ?_) (fun c_22 => absurd c_22 (by omega))
  refine wa_aload_n dX10_law_31 rfl 0 rfl ?_
  refine wa_getr gX10_law_32 (rfl) rfl ?_
  refine wa_iload_n dX10_law_35 rfl 2 rfl ?_
  refine wa_ialdN (e := r) dX10_law_36 (rfl) (by omega) (by decide) ?_
  refine wa_eqi (y := (nI (z))) (hz1) ?_
  refine wa_iconst (1) dX10_law_37 (by decide) ?_
  refine wa_iconst (3) dX10_law_38 (by decide) ?_
  refine wa_cSi (x_in (nI z) 1 3) vX10_in iX10_law_39 rfl rfl (Nat.le_of_ble_eq_true rfl) ⟨by decide, by decide⟩ ?_
  refine wa_eqi (y := (1)) (by rw [show inC (nI z) 1 3 = decide (1 ≤ z ∧ z ≤ 3) from in13 hz9, decide_eq_true ⟨hn, hn3⟩]; rfl) ?_
  refine wa_if_ne 51 dX10_law_42 (by decide) (fun c_42 => ?_) (fun c_42 => absurd c_42 (by decide))
  refine wa_iconst (1) dX10_law_51 (by decide) ?_
  refine wa_eqi (y := (wB (wAll (fun i => inC (M.1 99 (60 * r + i)) 0 7) 0))) (rfl) ?_
  refine wa_istore_n [(3, .int (wB (wAll (fun i => inC (M.1 99 (60 * r + i)) 0 7) 0))), (0, wm_r G (96)), (1, .int (nI (l))), (2, .int (nI (r)))] dX10_law_52 rfl (by decide) rfl ?_
  refine wa_iconst (0) dX10_law_53 (by decide) ?_
  refine wa_istore [(4, .int (0)), (3, .int (wB (wAll (fun i => inC (M.1 99 (60 * r + i)) 0 7) 0))), (0, wm_r G (96)), (1, .int (nI (l))), (2, .int (nI (r)))] dX10_law_54 (by decide) rfl ?_
  have L_56 : ∀ (n_ : Nat) (i : Nat), (z - i) < n_ → (i ≤ z) → WA G t_X10_law (fun v_ N_ => v_ = some (.int (nI (z))) ∧ N_ = wIa (wI M 109 l (nI z)) 110 (sgF (M.1 110) (fun i => if i < z then M.1 99 (60 * r + i) else 0) (3 * l) (3))) 56 [(4, .int (nI (i))), (3, .int (wB (wAll (fun i => inC (M.1 99 (60 * r + i)) 0 7) i))), (0, wm_r G (96)), (1, .int (nI (l))), (2, .int (nI (r)))] [] (M) := by
    intro n_
    induction n_ with
    | zero => intro i h_; exact absurd h_ (Nat.not_lt_zero _)
    | succ n_ ih_56 =>
      intro i h_ hi
      refine wa_iload dX10_law_56 0 rfl ?_
      refine wa_aload_n dX10_law_58 rfl 2 rfl ?_
      refine wa_getr gX10_law_59 (rfl) rfl ?_
      refine wa_iload_n dX10_law_62 rfl 4 rfl ?_
      refine wa_ialdN (e := r) dX10_law_63 (rfl) (by omega) (by decide) ?_
      refine wa_eqi (y := (nI (z))) (hz1) ?_
      refine wa_icmp_geN (a := i) (b := z) 99 dX10_law_64 (by decide) (by omega) (by omega) (fun c_64 => ?_) (fun c_64 => ?_)
      · refine wa_iload_n dX10_law_99 rfl 1 rfl ?_
        refine wa_if_neB 109 dX10_law_100 (by decide) (fun c_100 => ?_) (fun c_100 => absurd c_100 (by rw [show i = z by omega, hg]; decide))
        refine wa_aload_n dX10_law_109 rfl 2 rfl ?_
        refine wa_getr gX10_law_110 (rfl) rfl ?_
        refine wa_iload_n dX10_law_113 rfl 3 rfl ?_
        refine wa_aload_n dX10_law_114 rfl 2 rfl ?_
        refine wa_getr gX10_law_115 (rfl) rfl ?_
        refine wa_iload_n dX10_law_118 rfl 4 rfl ?_
        refine wa_ialdN (e := r) dX10_law_119 (rfl) (by omega) (by decide) ?_
        refine wa_eqi (y := (nI (z))) (hz1) ?_
        refine wa_iastN (e := l) dX10_law_120 (rfl) (by omega) (by decide) ?_
        refine wa_iconst (0) dX10_law_121 (by decide) ?_
        refine wa_istore [(4, .int (0)), (3, .int (wB (wAll (fun i => inC (M.1 99 (60 * r + i)) 0 7) i))), (0, wm_r G (96)), (1, .int (nI (l))), (2, .int (nI (r)))] dX10_law_122 (by decide) rfl ?_
        have L_124 : ∀ (n_ : Nat) (j : Nat), (3 - j) < n_ → (j ≤ 3) → WA G t_X10_law (fun v_ N_ => v_ = some (.int (nI (z))) ∧ N_ = wIa (wI M 109 l (nI z)) 110 (sgF (M.1 110) (fun i => if i < z then M.1 99 (60 * r + i) else 0) (3 * l) (3))) 124 [(4, .int (nI (j))), (0, wm_r G (96)), (1, .int (nI (l))), (2, .int (nI (r)))] [] (wIa (wI M 109 l (nI z)) 110 (sgF (M.1 110) (fun i => if i < z then M.1 99 (60 * r + i) else 0) (3 * l) (j))) := by
          intro n_
          induction n_ with
          | zero => intro j h_; exact absurd h_ (Nat.not_lt_zero _)
          | succ n_ ih_124 =>
            intro j h_ hj
            refine wa_iload dX10_law_124 0 rfl ?_
            refine wa_iconst (3) dX10_law_126 (by decide) ?_
            refine wa_icmp_geN (a := j) (b := 3) 169 dX10_law_127 (by decide) (by omega) (by omega) (fun c_127 => ?_) (fun c_127 => ?_)
            · refine wa_aload_n dX10_law_169 rfl 1 rfl ?_
              refine wa_getr gX10_law_170 (rfl) rfl ?_
              refine wa_iload_n dX10_law_173 rfl 3 rfl ?_
              refine wa_ialdN (e := r) dX10_law_174 (rfl) (by omega) (by decide) ?_
              refine wa_eqi (y := (nI (z))) (by rw [wIa_n (by decide), wI_c (by decide)]; exact hz1) ?_
              exact wa_iret dX10_law_175 rfl ⟨congrArg (fun z => some (Value.int z)) (rfl), by rw [show j = 3 by omega]⟩
            · refine wa_aload_n dX10_law_130 rfl 1 rfl ?_
              refine wa_getr gX10_law_131 (rfl) rfl ?_
              refine wa_iconst (3) dX10_law_134 (by decide) ?_
              refine wa_iload_n dX10_law_135 rfl 2 rfl ?_
              refine wa_imulN (a := 3) (b := l) dX10_law_136 ?_
              refine wa_iload dX10_law_137 0 rfl ?_
              refine wa_iaddN (a := 3 * l) (b := j) dX10_law_139 ?_
              refine wa_iload dX10_law_140 0 rfl ?_
              refine wa_aload_n dX10_law_142 rfl 1 rfl ?_
              refine wa_getr gX10_law_143 (rfl) rfl ?_
              refine wa_iload_n dX10_law_146 rfl 3 rfl ?_
              refine wa_ialdN (e := r) dX10_law_147 (rfl) (by omega) (by decide) ?_
              refine wa_eqi (y := (nI (z))) (by rw [wIa_n (by decide), wI_c (by decide)]; exact hz1) ?_
              refine wa_icmp_geN (a := j) (b := z) 161 dX10_law_148 (by decide) (by omega) (by omega) (fun c_148 => ?_) (fun c_148 => ?_)
              · refine wa_iconst (0) dX10_law_161 (by decide) ?_
                refine wa_iastN (e := 3 * l + j) dX10_law_162 (rfl) (by omega) (by decide) ?_
                refine wa_eqm (M' := wIa (wI M 109 l (nI z)) 110 (sgF (M.1 110) (fun i => if i < z then M.1 99 (60 * r + i) else 0) (3 * l) (j + 1))) (wI_wIa.trans (congrArg (wIa _ 110) (sgF_s (f := M.1 110) (g := (fun i => if i < z then M.1 99 (60 * r + i) else 0)) (a := 3 * l) (n := j) (by first | (rw [if_pos (by omega)]; done) | (rw [if_neg (by omega)]; done))))) ?_
                refine wa_iinc ((nI (j + 1))) [(4, .int (nI (j + 1))), (0, wm_r G (96)), (1, .int (nI (l))), (2, .int (nI (r)))] dX10_law_163 0 rfl (nI_inc _) (by decide) rfl ?_
                refine wa_goto 124 dX10_law_166 (by decide) ?_
                exact ih_124 (j + 1) (by omega) (by omega)
              · refine wa_aload_n dX10_law_151 rfl 1 rfl ?_
                refine wa_iload_n dX10_law_152 rfl 3 rfl ?_
                refine wa_iload dX10_law_153 0 rfl ?_
                refine wa_cVi (x_rowAt (M := wIa (wI M 109 l (nI z)) 110 (sgF (M.1 110) (fun i => if i < z then M.1 99 (60 * r + i) else 0) (3 * l) (j))) r j hr (by omega)) vX10_rowAt iX10_law_155 (rfl) rfl rfl rfl (Nat.le_of_ble_eq_true rfl) ⟨by decide, by decide⟩ ?_
                refine wa_eqi (y := (M.1 99 (60 * r + j))) (by rw [wIa_n (by decide), wI_c (by decide)]) ?_
                refine wa_goto 162 dX10_law_158 (by decide) ?_
                refine wa_iastN (e := 3 * l + j) dX10_law_162 (rfl) (by omega) (by decide) ?_
                refine wa_eqm (M' := wIa (wI M 109 l (nI z)) 110 (sgF (M.1 110) (fun i => if i < z then M.1 99 (60 * r + i) else 0) (3 * l) (j + 1))) (wI_wIa.trans (congrArg (wIa _ 110) (sgF_s (f := M.1 110) (g := (fun i => if i < z then M.1 99 (60 * r + i) else 0)) (a := 3 * l) (n := j) (by first | (rw [if_pos (by omega)]; done) | (rw [if_neg (by omega)]; done))))) ?_
                refine wa_iinc ((nI (j + 1))) [(4, .int (nI (j + 1))), (0, wm_r G (96)), (1, .int (nI (l))), (2, .int (nI (r)))] dX10_law_163 0 rfl (nI_inc _) (by decide) rfl ?_
                refine wa_goto 124 dX10_law_166 (by decide) ?_
                exact ih_124 (j + 1) (by omega) (by omega)
        refine wa_sub [0, 2, 3, 4] rfl ?_
        refine wa_eqm (M' := wIa (wI M 109 l (nI z)) 110 (sgF (M.1 110) (fun i => if i < z then M.1 99 (60 * r + i) else 0) (3 * l) (0))) (sg_start (wI_c (by decide))) ?_
        exact L_124 _ 0 (Nat.lt_succ_self _) (Nat.zero_le _)
      · refine wa_iload_n dX10_law_67 rfl 1 rfl ?_
        refine wa_if_eqB 91 dX10_law_68 (by decide) (fun (c_68 : (wAll (fun i => inC (M.1 99 (60 * r + i)) 0 7) i) = false) => ?_) (fun (c_68 : (wAll (fun i => inC (M.1 99 (60 * r + i)) 0 7) i) = true) => ?_)
        · refine wa_iconst (0) dX10_law_91 (by decide) ?_
          refine wa_eqi (y := (wB (wAll (fun i => inC (M.1 99 (60 * r + i)) 0 7) (i + 1)))) (by rw [wAll_s]; first | (rw [c_68]; rfl) | (rw [c_68, c_84]; rfl)) ?_
          refine wa_istore_n [(3, .int (wB (wAll (fun i => inC (M.1 99 (60 * r + i)) 0 7) (i + 1)))), (4, .int (nI (i))), (0, wm_r G (96)), (1, .int (nI (l))), (2, .int (nI (r)))] dX10_law_92 rfl (by decide) rfl ?_
          refine wa_iinc ((nI (i + 1))) [(4, .int (nI (i + 1))), (3, .int (wB (wAll (fun i => inC (M.1 99 (60 * r + i)) 0 7) (i + 1)))), (0, wm_r G (96)), (1, .int (nI (l))), (2, .int (nI (r)))] dX10_law_93 1 rfl (nI_inc _) (by decide) rfl ?_
          refine wa_goto 56 dX10_law_96 (by decide) ?_
          exact ih_56 (i + 1) (by omega) (by omega)
        · refine wa_aload_n dX10_law_71 rfl 2 rfl ?_
          refine wa_iload_n dX10_law_72 rfl 4 rfl ?_
          refine wa_iload dX10_law_73 0 rfl ?_
          refine wa_cVi (x_rowAt r i hr (by omega)) vX10_rowAt iX10_law_75 (rfl) rfl rfl rfl (Nat.le_of_ble_eq_true rfl) ⟨by decide, by decide⟩ ?_
          refine wa_iconst (0) dX10_law_78 (by decide) ?_
          refine wa_bipush (7) dX10_law_79 (by decide) ?_
          refine wa_cSi (x_in (M.1 99 (60 * r + i)) 0 7) vX10_in iX10_law_81 rfl rfl (Nat.le_of_ble_eq_true rfl) ⟨by decide, by decide⟩ ?_
          refine wa_if_eqB 91 dX10_law_84 (by decide) (fun (c_84 : (inC (M.1 99 (60 * r + i)) 0 7) = false) => ?_) (fun (c_84 : (inC (M.1 99 (60 * r + i)) 0 7) = true) => ?_)
          · refine wa_iconst (0) dX10_law_91 (by decide) ?_
            refine wa_eqi (y := (wB (wAll (fun i => inC (M.1 99 (60 * r + i)) 0 7) (i + 1)))) (by rw [wAll_s]; first | (rw [c_68]; rfl) | (rw [c_68, c_84]; rfl)) ?_
            refine wa_istore_n [(3, .int (wB (wAll (fun i => inC (M.1 99 (60 * r + i)) 0 7) (i + 1)))), (4, .int (nI (i))), (0, wm_r G (96)), (1, .int (nI (l))), (2, .int (nI (r)))] dX10_law_92 rfl (by decide) rfl ?_
            refine wa_iinc ((nI (i + 1))) [(4, .int (nI (i + 1))), (3, .int (wB (wAll (fun i => inC (M.1 99 (60 * r + i)) 0 7) (i + 1)))), (0, wm_r G (96)), (1, .int (nI (l))), (2, .int (nI (r)))] dX10_law_93 1 rfl (nI_inc _) (by decide) rfl ?_
            refine wa_goto 56 dX10_law_96 (by decide) ?_
            exact ih_56 (i + 1) (by omega) (by omega)
          · refine wa_iconst (1) dX10_law_87 (by decide) ?_
            refine wa_goto 92 dX10_law_88 (by decide) ?_
            refine wa_eqi (y := (wB (wAll (fun i => inC (M.1 99 (60 * r + i)) 0 7) (i + 1)))) (by rw [wAll_s]; first | (rw [c_68]; rfl) | (rw [c_68, c_84]; rfl)) ?_
            refine wa_istore_n [(3, .int (wB (wAll (fun i => inC (M.1 99 (60 * r + i)) 0 7) (i + 1)))), (4, .int (nI (i))), (0, wm_r G (96)), (1, .int (nI (l))), (2, .int (nI (r)))] dX10_law_92 rfl (by decide) rfl ?_
            refine wa_iinc ((nI (i + 1))) [(4, .int (nI (i + 1))), (3, .int (wB (wAll (fun i => inC (M.1 99 (60 * r + i)) 0 7) (i + 1)))), (0, wm_r G (96)), (1, .int (nI (l))), (2, .int (nI (r)))] dX10_law_93 1 rfl (nI_inc _) (by decide) rfl ?_
            refine wa_goto 56 dX10_law_96 (by decide) ?_
            exact ih_56 (i + 1) (by omega) (by omega)
  exact L_56 _ 0 (Nat.lt_succ_self _) (Nat.zero_le _)

theorem x_reads_bad1 {G : wm_G} {M : wm_M} (C : wm_M) (w h : Nat) (hX : xStn C M w h) (hW : TW C w h) (st e r : Int32) (hb : (wIn st (w + h) && wIn e 2) = false) : MD G t_X10_reads [wm_r G (96), .int (st), .int (e), .int (r)] (M) (some (.int (-1))) (M) := by
  obtain ⟨x10, x11, x12, x103, x104, x105, x106⟩ := id hX
  have hn6 := TW_n hW
  have hw3 := hW.2.2.1
  have hh2 := hW.2.2.2
  refine wm_met (by decide) (Nat.le_of_ble_eq_true rfl) ?_
  show WA G t_X10_reads (fun v_ N_ => v_ = some (.int (-1)) ∧ N_ = M) 0 [(0, wm_r G (96)), (1, .int (st)), (2, .int (e)), (3, .int (r))] [] (M)
  refine wa_aload_n dX10_reads_0 rfl 0 rfl ?_
  refine wa_iload_n dX10_reads_1 rfl 1 rfl ?_
  refine wa_cVi (x_isStreet C w h hX hW st) vX10_isStreet iX10_reads_2 (rfl) rfl rfl rfl (Nat.le_of_ble_eq_true rfl) ⟨by decide, by decide⟩ ?_
  refine wa_if_eqB 24 dX10_reads_5 (by decide) (fun (c_5 : (wIn st (w + h)) = false) => ?_) (fun (c_5 : (wIn st (w + h)) = true) => ?_)
  · refine wa_iconst (-1) dX10_reads_24 (by decide) ?_
    exact wa_iret dX10_reads_25 rfl ⟨congrArg (fun z => some (Value.int z)) (rfl), rfl⟩
  · refine wa_iload_n dX10_reads_8 rfl 2 rfl ?_
    refine wa_iconst (0) dX10_reads_9 (by decide) ?_
    refine wa_iconst (1) dX10_reads_10 (by decide) ?_
    refine wa_cSi (x_in e 0 1) vX10_in iX10_reads_11 rfl rfl (Nat.le_of_ble_eq_true rfl) ⟨by decide, by decide⟩ ?_
    refine wa_eqi (y := (wB (wIn e 2))) (congrArg wB (inC_w (m := 1) (by decide) e)) ?_
    refine wa_if_eqB 24 dX10_reads_14 (by decide) (fun (c_14 : (wIn e 2) = false) => ?_) (fun (c_14 : (wIn e 2) = true) => ?_)
    · refine wa_iconst (-1) dX10_reads_24 (by decide) ?_
      exact wa_iret dX10_reads_25 rfl ⟨congrArg (fun z => some (Value.int z)) (rfl), rfl⟩
    · exact absurd hb (by rw [c_5, c_14]; decide)

theorem x_reads_bad2 {G : wm_G} {M : wm_M} (C : wm_M) (w h : Nat) (hX : xStn C M w h) (hW : TW C w h) (st e : Nat) (hst : st < w + h) (he : e < 2) (r : Int32) (hr : wIn r 6 = false) : MD G t_X10_reads [wm_r G (96), .int (nI (st)), .int (nI (e)), .int (r)] (M) (some (.int (-1))) (M) := by
  obtain ⟨x10, x11, x12, x103, x104, x105, x106⟩ := id hX
  have hn6 := TW_n hW
  have hw3 := hW.2.2.1
  have hh2 := hW.2.2.2
  refine wm_met (by decide) (Nat.le_of_ble_eq_true rfl) ?_
  show WA G t_X10_reads (fun v_ N_ => v_ = some (.int (-1)) ∧ N_ = M) 0 [(0, wm_r G (96)), (1, .int (nI (st))), (2, .int (nI (e))), (3, .int (r))] [] (M)
  refine wa_aload_n dX10_reads_0 rfl 0 rfl ?_
  refine wa_iload_n dX10_reads_1 rfl 1 rfl ?_
  refine wa_cVi (x_isStreet C w h hX hW (nI st)) vX10_isStreet iX10_reads_2 (rfl) rfl rfl rfl (Nat.le_of_ble_eq_true rfl) ⟨by decide, by decide⟩ ?_
  refine wa_eqi (y := (1)) (by rw [wIn_nI (by omega), decide_eq_true hst]; rfl) ?_
  refine wa_if_eq 24 dX10_reads_5 (by decide) (fun c_5 => absurd c_5 (by decide)) (fun c_5 => ?_)
  refine wa_iload_n dX10_reads_8 rfl 2 rfl ?_
  refine wa_iconst (0) dX10_reads_9 (by decide) ?_
  refine wa_iconst (1) dX10_reads_10 (by decide) ?_
  refine wa_cSi (x_in (nI e) 0 1) vX10_in iX10_reads_11 rfl rfl (Nat.le_of_ble_eq_true rfl) ⟨by decide, by decide⟩ ?_
  refine wa_eqi (y := (1)) (by rw [show inC (nI e) 0 1 = wIn (nI e) 2 from inC_w (m := 1) (by decide) _, wIn_nI (by omega), decide_eq_true he]; rfl) ?_
  refine wa_if_eq 24 dX10_reads_14 (by decide) (fun c_14 => absurd c_14 (by decide)) (fun c_14 => ?_)
  refine wa_iload_n dX10_reads_17 rfl 3 rfl ?_
  refine wa_cSi (x_isRow r) vX10_isRow iX10_reads_18 rfl rfl (Nat.le_of_ble_eq_true rfl) ⟨by decide, by decide⟩ ?_
  refine wa_eqi (y := (0)) (by rw [hr]; rfl) ?_
  refine wa_if_ne 26 dX10_reads_21 (by decide) (fun c_21 => absurd c_21 (by decide)) (fun c_21 => ?_)
  refine wa_iconst (-1) dX10_reads_24 (by decide) ?_
  exact wa_iret dX10_reads_25 rfl ⟨congrArg (fun z => some (Value.int z)) (rfl), rfl⟩

theorem x_reads_ok {G : wm_G} {M : wm_M} (C : wm_M) (w h s : Nat) (hX : xStn C M w h) (hW : TW C w h) (hXL : xLaw C M) (hCL : cLaw C) (hCS : cStn C (w * h)) (hQ : ∀ k, k < w * h → M.1 107 k = nI (sQ s k)) (st e : Nat) (hst : st < w + h) (he : e < 2) (r : Nat) (hr : r < 6) : MD G t_X10_reads [wm_r G (96), .int (nI (st)), .int (nI (e)), .int (nI (r))] (M) (some (.int (nI (wCnt (fun i => !decide (wordR C w h s st e i = -1)) (min (60) (sLen w h st)))))) (wIa (wI (lyM M (w * h) (M.1 107)) 98 r (nI (sLen w h st))) 99 (sgF (M.1 99) (fun i => if i < sLen w h st then wordR C w h s st e i else 0) (60 * r) (60))) := by
  obtain ⟨x10, x11, x12, x103, x104, x105, x106⟩ := id hX
  have hn6 := TW_n hW
  have hw3 := hW.2.2.1
  have hh2 := hW.2.2.2
  have hQ1 : XQ C (lyM M (w * h) (M.1 107)) w h s := XQ.lay (s := s) hW hX hXL hCL hCS hQ
  have hlen : sLen w h st ≤ 3 := by unfold sLen; split <;> omega
  refine wm_met (by decide) (Nat.le_of_ble_eq_true rfl) ?_
  show WA G t_X10_reads (fun v_ N_ => v_ = some (.int (nI (wCnt (fun i => !decide (wordR C w h s st e i = -1)) (min (60) (sLen w h st))))) ∧ N_ = wIa (wI (lyM M (w * h) (M.1 107)) 98 r (nI (sLen w h st))) 99 (sgF (M.1 99) (fun i => if i < sLen w h st then wordR C w h s st e i else 0) (60 * r) (60))) 0 [(0, wm_r G (96)), (1, .int (nI (st))), (2, .int (nI (e))), (3, .int (nI (r)))] [] (M)
  refine wa_aload_n dX10_reads_0 rfl 0 rfl ?_
  refine wa_iload_n dX10_reads_1 rfl 1 rfl ?_
  refine wa_cVi (x_isStreet C w h hX hW (nI st)) vX10_isStreet iX10_reads_2 (rfl) rfl rfl rfl (Nat.le_of_ble_eq_true rfl) ⟨by decide, by decide⟩ ?_
  refine wa_eqi (y := (1)) (by rw [wIn_nI (by omega), decide_eq_true hst]; rfl) ?_
  refine wa_if_eq 24 dX10_reads_5 (by decide) (fun c_5 => absurd c_5 (by decide)) (fun c_5 => ?_)
  refine wa_iload_n dX10_reads_8 rfl 2 rfl ?_
  refine wa_iconst (0) dX10_reads_9 (by decide) ?_
  refine wa_iconst (1) dX10_reads_10 (by decide) ?_
  refine wa_cSi (x_in (nI e) 0 1) vX10_in iX10_reads_11 rfl rfl (Nat.le_of_ble_eq_true rfl) ⟨by decide, by decide⟩ ?_
  refine wa_eqi (y := (1)) (by rw [show inC (nI e) 0 1 = wIn (nI e) 2 from inC_w (m := 1) (by decide) _, wIn_nI (by omega), decide_eq_true he]; rfl) ?_
  refine wa_if_eq 24 dX10_reads_14 (by decide) (fun c_14 => absurd c_14 (by decide)) (fun c_14 => ?_)
  refine wa_iload_n dX10_reads_17 rfl 3 rfl ?_
  refine wa_cSi (x_isRow (nI r)) vX10_isRow iX10_reads_18 rfl rfl (Nat.le_of_ble_eq_true rfl) ⟨by decide, by decide⟩ ?_
  refine wa_eqi (y := (1)) (by rw [wIn_nI (by omega), decide_eq_true (by omega)]; rfl) ?_
  refine wa_if_ne 26 dX10_reads_21 (by decide) (fun c_21 => ?_) (fun c_21 => absurd c_21 (by decide))
  refine wa_aload_n dX10_reads_26 rfl 0 rfl ?_
  refine wa_cVv (x_layNow (w * h) hn6 x12) vX10_layNow iX10_reads_27 (rfl) rfl rfl rfl (Nat.le_of_ble_eq_true rfl) ⟨by decide, by decide⟩ ?_
  refine wa_iconst (0) dX10_reads_30 (by decide) ?_
  refine wa_eqi (y := (nI (wCnt (fun i => !decide (wordR C w h s st e i = -1)) (min (0) (sLen w h st))))) (by rw [Nat.zero_min]; rfl) ?_
  refine wa_istore [(4, .int (nI (wCnt (fun i => !decide (wordR C w h s st e i = -1)) (min (0) (sLen w h st))))), (0, wm_r G (96)), (1, .int (nI (st))), (2, .int (nI (e))), (3, .int (nI (r)))] dX10_reads_31 (by decide) rfl ?_
  refine wa_aload_n dX10_reads_33 rfl 1 rfl ?_
  refine wa_getr gX10_reads_34 (rfl) rfl ?_
  refine wa_iload_n dX10_reads_37 rfl 4 rfl ?_
  refine wa_aload_n dX10_reads_38 rfl 1 rfl ?_
  refine wa_iload_n dX10_reads_39 rfl 2 rfl ?_
  refine wa_cVi (x_longOf C w h hQ1.2.1 hW st (by omega)) vX10_longOf iX10_reads_40 (rfl) rfl rfl rfl (Nat.le_of_ble_eq_true rfl) ⟨by decide, by decide⟩ ?_
  refine wa_iastN (e := r) dX10_reads_43 (rfl) (by omega) (by decide) ?_
  refine wa_iconst (0) dX10_reads_44 (by decide) ?_
  refine wa_istore [(5, .int (0)), (4, .int (nI (wCnt (fun i => !decide (wordR C w h s st e i = -1)) (min (0) (sLen w h st))))), (0, wm_r G (96)), (1, .int (nI (st))), (2, .int (nI (e))), (3, .int (nI (r)))] dX10_reads_45 (by decide) rfl ?_
  have L_47 : ∀ (n_ : Nat) (i : Nat), (60 - i) < n_ → (i ≤ 60) → WA G t_X10_reads (fun v_ N_ => v_ = some (.int (nI (wCnt (fun i => !decide (wordR C w h s st e i = -1)) (min (60) (sLen w h st))))) ∧ N_ = wIa (wI (lyM M (w * h) (M.1 107)) 98 r (nI (sLen w h st))) 99 (sgF (M.1 99) (fun i => if i < sLen w h st then wordR C w h s st e i else 0) (60 * r) (60))) 47 [(5, .int (nI (i))), (4, .int (nI (wCnt (fun i => !decide (wordR C w h s st e i = -1)) (min (i) (sLen w h st))))), (0, wm_r G (96)), (1, .int (nI (st))), (2, .int (nI (e))), (3, .int (nI (r)))] [] (wIa (wI (lyM M (w * h) (M.1 107)) 98 r (nI (sLen w h st))) 99 (sgF (M.1 99) (fun i => if i < sLen w h st then wordR C w h s st e i else 0) (60 * r) (i))) := by
    intro n_
    induction n_ with
    | zero => intro i h_; exact absurd h_ (Nat.not_lt_zero _)
    | succ n_ ih_47 =>
      intro i h_ hi
      have hQ2 : XQ C (wIa (wI (lyM M (w * h) (M.1 107)) 98 r (nI (sLen w h st))) 99 (sgF (M.1 99) (fun i => if i < sLen w h st then wordR C w h s st e i else 0) (60 * r) (i))) w h s := hQ1.fr (fun j _ => by rw [wIa_n (by decide), wI_c (by decide)]) (fun c h1 h2 => by rw [wIa_n (by omega), wI_c (by omega)])
      obtain ⟨-, hX2, -, -, -, hLd2⟩ := id hQ2
      refine wa_iload dX10_reads_47 0 rfl ?_
      refine wa_bipush (60) dX10_reads_49 (by decide) ?_
      refine wa_icmp_geN (a := i) (b := 60) 125 dX10_reads_51 (by decide) (by omega) (by omega) (fun c_51 => ?_) (fun c_51 => ?_)
      · refine wa_iload dX10_reads_125 1 rfl ?_
        exact wa_iret dX10_reads_127 rfl ⟨congrArg (fun z => some (Value.int z)) (by rw [show i = 60 by omega]), by rw [show i = 60 by omega]⟩
      · refine wa_iload dX10_reads_54 0 rfl ?_
        refine wa_aload_n dX10_reads_56 rfl 2 rfl ?_
        refine wa_getr gX10_reads_57 (rfl) rfl ?_
        refine wa_iload_n dX10_reads_60 rfl 5 rfl ?_
        refine wa_ialdN (e := r) dX10_reads_61 (rfl) (by omega) (by decide) ?_
        refine wa_eqi (y := (nI (sLen w h st))) (by rw [wIa_n (by decide), wI_at]) ?_
        refine wa_icmp_geN (a := i) (b := sLen w h st) 76 dX10_reads_62 (by decide) (by omega) (by omega) (fun c_62 => ?_) (fun c_62 => ?_)
        · refine wa_iconst (0) dX10_reads_76 (by decide) ?_
          refine wa_eqi (y := ((fun i => if i < sLen w h st then wordR C w h s st e i else 0) i)) (by first | (show _ = (if i < _ then _ else _); rw [if_neg (show ¬ i < sLen w h st by omega)]; done) | (show _ = (if i < _ then _ else _); rw [if_pos (show i < sLen w h st by omega)]; done)) ?_
          refine wa_istore [(6, .int ((fun i => if i < sLen w h st then wordR C w h s st e i else 0) i)), (5, .int (nI (i))), (4, .int (nI (wCnt (fun i => !decide (wordR C w h s st e i = -1)) (min (i) (sLen w h st))))), (0, wm_r G (96)), (1, .int (nI (st))), (2, .int (nI (e))), (3, .int (nI (r)))] dX10_reads_77 (by decide) rfl ?_
          refine wa_aload_n dX10_reads_79 rfl 3 rfl ?_
          refine wa_getr gX10_reads_80 (rfl) rfl ?_
          refine wa_bipush (60) dX10_reads_83 (by decide) ?_
          refine wa_iload_n dX10_reads_85 rfl 6 rfl ?_
          refine wa_imulN (a := 60) (b := r) dX10_reads_86 ?_
          refine wa_iload dX10_reads_87 1 rfl ?_
          refine wa_iaddN (a := 60 * r) (b := i) dX10_reads_89 ?_
          refine wa_iload dX10_reads_90 0 rfl ?_
          refine wa_iastN (e := 60 * r + i) dX10_reads_92 (rfl) (by omega) (by decide) ?_
          refine wa_eqm (M' := wIa (wI (lyM M (w * h) (M.1 107)) 98 r (nI (sLen w h st))) 99 (sgF (M.1 99) (fun i => if i < sLen w h st then wordR C w h s st e i else 0) (60 * r) (i + 1))) (wI_wIa.trans (congrArg (wIa _ 99) (sgF_s (f := M.1 99) (g := (fun i => if i < sLen w h st then wordR C w h s st e i else 0)) (a := 60 * r) (n := i) rfl))) ?_
          have L_93 : WA G t_X10_reads (fun v_ N_ => v_ = some (.int (nI (wCnt (fun i => !decide (wordR C w h s st e i = -1)) (min (60) (sLen w h st))))) ∧ N_ = wIa (wI (lyM M (w * h) (M.1 107)) 98 r (nI (sLen w h st))) 99 (sgF (M.1 99) (fun i => if i < sLen w h st then wordR C w h s st e i else 0) (60 * r) (60))) 93 [(6, .int ((fun i => if i < sLen w h st then wordR C w h s st e i else 0) i)), (5, .int (nI (i))), (4, .int (nI (wCnt (fun i => !decide (wordR C w h s st e i = -1)) (min (i) (sLen w h st))))), (0, wm_r G (96)), (1, .int (nI (st))), (2, .int (nI (e))), (3, .int (nI (r)))] [] (wIa (wI (lyM M (w * h) (M.1 107)) 98 r (nI (sLen w h st))) 99 (sgF (M.1 99) (fun i => if i < sLen w h st then wordR C w h s st e i else 0) (60 * r) (i + 1))) := by
            refine wa_iload dX10_reads_93 2 rfl ?_
            refine wa_iload dX10_reads_95 1 rfl ?_
            refine wa_aload_n dX10_reads_97 rfl 3 rfl ?_
            refine wa_getr gX10_reads_98 (rfl) rfl ?_
            refine wa_iload_n dX10_reads_101 rfl 6 rfl ?_
            refine wa_ialdN (e := r) dX10_reads_102 (rfl) (by omega) (by decide) ?_
            refine wa_eqi (y := (nI (sLen w h st))) (by rw [wIa_n (by decide), wI_at]) ?_
            refine wa_icmp_geN (a := i) (b := sLen w h st) 115 dX10_reads_103 (by decide) (by omega) (by omega) (fun c_103 => ?_) (fun c_103 => ?_)
            · refine wa_iconst (0) dX10_reads_115 (by decide) ?_
              refine wa_iaddN (a := wCnt (fun i => !decide (wordR C w h s st e i = -1)) (min (i) (sLen w h st))) (b := 0) dX10_reads_116 ?_
              refine wa_eqi (y := (nI (wCnt (fun i => !decide (wordR C w h s st e i = -1)) (min (i + 1) (sLen w h st))))) (congrArg nI (by first | (rw [Nat.add_zero, show min (i + 1) (sLen w h st) = min i (sLen w h st) by omega]; done) | (rw [Nat.add_zero, show min (i + 1) (sLen w h st) = i + 1 by omega, show min i (sLen w h st) = i by omega]; simp only [wCnt]; rw [if_neg (by rw [(wR_neg hCS (sAt_lt hst (by omega))).mp c_108]; decide), Nat.add_zero]; done) | (rw [show min (i + 1) (sLen w h st) = i + 1 by omega, show min i (sLen w h st) = i by omega]; simp only [wCnt]; rw [if_pos (by rw [decide_eq_false (fun q => c_108 ((wR_neg hCS (sAt_lt hst (by omega))).mpr q))]; rfl)]; done))) ?_
              refine wa_istore [(4, .int (nI (wCnt (fun i => !decide (wordR C w h s st e i = -1)) (min (i + 1) (sLen w h st))))), (6, .int ((fun i => if i < sLen w h st then wordR C w h s st e i else 0) i)), (5, .int (nI (i))), (0, wm_r G (96)), (1, .int (nI (st))), (2, .int (nI (e))), (3, .int (nI (r)))] dX10_reads_117 (by decide) rfl ?_
              refine wa_iinc ((nI (i + 1))) [(5, .int (nI (i + 1))), (4, .int (nI (wCnt (fun i => !decide (wordR C w h s st e i = -1)) (min (i + 1) (sLen w h st))))), (6, .int ((fun i => if i < sLen w h st then wordR C w h s st e i else 0) i)), (0, wm_r G (96)), (1, .int (nI (st))), (2, .int (nI (e))), (3, .int (nI (r)))] dX10_reads_119 2 rfl (nI_inc _) (by decide) rfl ?_
              refine wa_goto 47 dX10_reads_122 (by decide) ?_
              refine wa_sub [0, 1, 3, 4, 5, 6] rfl ?_
              exact ih_47 (i + 1) (by omega) (by omega)
            · refine wa_iload dX10_reads_106 0 rfl ?_
              refine wa_eqi (y := (wordR C w h s st e i)) (by show (if i < _ then _ else _) = _; rw [if_pos (show i < sLen w h st by omega)]) ?_
              refine wa_if_lt 115 dX10_reads_108 (by decide) (fun c_108 => ?_) (fun c_108 => ?_)
              · refine wa_iconst (0) dX10_reads_115 (by decide) ?_
                refine wa_iaddN (a := wCnt (fun i => !decide (wordR C w h s st e i = -1)) (min (i) (sLen w h st))) (b := 0) dX10_reads_116 ?_
                refine wa_eqi (y := (nI (wCnt (fun i => !decide (wordR C w h s st e i = -1)) (min (i + 1) (sLen w h st))))) (congrArg nI (by first | (rw [Nat.add_zero, show min (i + 1) (sLen w h st) = min i (sLen w h st) by omega]; done) | (rw [Nat.add_zero, show min (i + 1) (sLen w h st) = i + 1 by omega, show min i (sLen w h st) = i by omega]; simp only [wCnt]; rw [if_neg (by rw [(wR_neg hCS (sAt_lt hst (by omega))).mp c_108]; decide), Nat.add_zero]; done) | (rw [show min (i + 1) (sLen w h st) = i + 1 by omega, show min i (sLen w h st) = i by omega]; simp only [wCnt]; rw [if_pos (by rw [decide_eq_false (fun q => c_108 ((wR_neg hCS (sAt_lt hst (by omega))).mpr q))]; rfl)]; done))) ?_
                refine wa_istore [(4, .int (nI (wCnt (fun i => !decide (wordR C w h s st e i = -1)) (min (i + 1) (sLen w h st))))), (6, .int ((fun i => if i < sLen w h st then wordR C w h s st e i else 0) i)), (5, .int (nI (i))), (0, wm_r G (96)), (1, .int (nI (st))), (2, .int (nI (e))), (3, .int (nI (r)))] dX10_reads_117 (by decide) rfl ?_
                refine wa_iinc ((nI (i + 1))) [(5, .int (nI (i + 1))), (4, .int (nI (wCnt (fun i => !decide (wordR C w h s st e i = -1)) (min (i + 1) (sLen w h st))))), (6, .int ((fun i => if i < sLen w h st then wordR C w h s st e i else 0) i)), (0, wm_r G (96)), (1, .int (nI (st))), (2, .int (nI (e))), (3, .int (nI (r)))] dX10_reads_119 2 rfl (nI_inc _) (by decide) rfl ?_
                refine wa_goto 47 dX10_reads_122 (by decide) ?_
                refine wa_sub [0, 1, 3, 4, 5, 6] rfl ?_
                exact ih_47 (i + 1) (by omega) (by omega)
              · refine wa_iconst (1) dX10_reads_111 (by decide) ?_
                refine wa_goto 116 dX10_reads_112 (by decide) ?_
                refine wa_iaddN (a := wCnt (fun i => !decide (wordR C w h s st e i = -1)) (min (i) (sLen w h st))) (b := 1) dX10_reads_116 ?_
                refine wa_eqi (y := (nI (wCnt (fun i => !decide (wordR C w h s st e i = -1)) (min (i + 1) (sLen w h st))))) (congrArg nI (by first | (rw [Nat.add_zero, show min (i + 1) (sLen w h st) = min i (sLen w h st) by omega]; done) | (rw [Nat.add_zero, show min (i + 1) (sLen w h st) = i + 1 by omega, show min i (sLen w h st) = i by omega]; simp only [wCnt]; rw [if_neg (by rw [(wR_neg hCS (sAt_lt hst (by omega))).mp c_108]; decide), Nat.add_zero]; done) | (rw [show min (i + 1) (sLen w h st) = i + 1 by omega, show min i (sLen w h st) = i by omega]; simp only [wCnt]; rw [if_pos (by rw [decide_eq_false (fun q => c_108 ((wR_neg hCS (sAt_lt hst (by omega))).mpr q))]; rfl)]; done))) ?_
                refine wa_istore [(4, .int (nI (wCnt (fun i => !decide (wordR C w h s st e i = -1)) (min (i + 1) (sLen w h st))))), (6, .int ((fun i => if i < sLen w h st then wordR C w h s st e i else 0) i)), (5, .int (nI (i))), (0, wm_r G (96)), (1, .int (nI (st))), (2, .int (nI (e))), (3, .int (nI (r)))] dX10_reads_117 (by decide) rfl ?_
                refine wa_iinc ((nI (i + 1))) [(5, .int (nI (i + 1))), (4, .int (nI (wCnt (fun i => !decide (wordR C w h s st e i = -1)) (min (i + 1) (sLen w h st))))), (6, .int ((fun i => if i < sLen w h st then wordR C w h s st e i else 0) i)), (0, wm_r G (96)), (1, .int (nI (st))), (2, .int (nI (e))), (3, .int (nI (r)))] dX10_reads_119 2 rfl (nI_inc _) (by decide) rfl ?_
                refine wa_goto 47 dX10_reads_122 (by decide) ?_
                refine wa_sub [0, 1, 3, 4, 5, 6] rfl ?_
                exact ih_47 (i + 1) (by omega) (by omega)
          exact L_93  
        · refine wa_aload_n dX10_reads_65 rfl 2 rfl ?_
          refine wa_iload_n dX10_reads_66 rfl 3 rfl ?_
          refine wa_iload_n dX10_reads_67 rfl 4 rfl ?_
          refine wa_iload dX10_reads_68 0 rfl ?_
          refine wa_cVi (x_wordAt C w h hX2 hW st e i hst he (by omega) s hLd2) vX10_wordAt iX10_reads_70 (rfl) rfl rfl rfl (Nat.le_of_ble_eq_true rfl) ⟨by decide, by decide⟩ ?_
          refine wa_goto 77 dX10_reads_73 (by decide) ?_
          refine wa_eqi (y := ((fun i => if i < sLen w h st then wordR C w h s st e i else 0) i)) (by first | (show _ = (if i < _ then _ else _); rw [if_neg (show ¬ i < sLen w h st by omega)]; done) | (show _ = (if i < _ then _ else _); rw [if_pos (show i < sLen w h st by omega)]; done)) ?_
          refine wa_istore [(6, .int ((fun i => if i < sLen w h st then wordR C w h s st e i else 0) i)), (5, .int (nI (i))), (4, .int (nI (wCnt (fun i => !decide (wordR C w h s st e i = -1)) (min (i) (sLen w h st))))), (0, wm_r G (96)), (1, .int (nI (st))), (2, .int (nI (e))), (3, .int (nI (r)))] dX10_reads_77 (by decide) rfl ?_
          refine wa_aload_n dX10_reads_79 rfl 3 rfl ?_
          refine wa_getr gX10_reads_80 (rfl) rfl ?_
          refine wa_bipush (60) dX10_reads_83 (by decide) ?_
          refine wa_iload_n dX10_reads_85 rfl 6 rfl ?_
          refine wa_imulN (a := 60) (b := r) dX10_reads_86 ?_
          refine wa_iload dX10_reads_87 1 rfl ?_
          refine wa_iaddN (a := 60 * r) (b := i) dX10_reads_89 ?_
          refine wa_iload dX10_reads_90 0 rfl ?_
          refine wa_iastN (e := 60 * r + i) dX10_reads_92 (rfl) (by omega) (by decide) ?_
          refine wa_eqm (M' := wIa (wI (lyM M (w * h) (M.1 107)) 98 r (nI (sLen w h st))) 99 (sgF (M.1 99) (fun i => if i < sLen w h st then wordR C w h s st e i else 0) (60 * r) (i + 1))) (wI_wIa.trans (congrArg (wIa _ 99) (sgF_s (f := M.1 99) (g := (fun i => if i < sLen w h st then wordR C w h s st e i else 0)) (a := 60 * r) (n := i) rfl))) ?_
          have L_93 : WA G t_X10_reads (fun v_ N_ => v_ = some (.int (nI (wCnt (fun i => !decide (wordR C w h s st e i = -1)) (min (60) (sLen w h st))))) ∧ N_ = wIa (wI (lyM M (w * h) (M.1 107)) 98 r (nI (sLen w h st))) 99 (sgF (M.1 99) (fun i => if i < sLen w h st then wordR C w h s st e i else 0) (60 * r) (60))) 93 [(6, .int ((fun i => if i < sLen w h st then wordR C w h s st e i else 0) i)), (5, .int (nI (i))), (4, .int (nI (wCnt (fun i => !decide (wordR C w h s st e i = -1)) (min (i) (sLen w h st))))), (0, wm_r G (96)), (1, .int (nI (st))), (2, .int (nI (e))), (3, .int (nI (r)))] [] (wIa (wI (lyM M (w * h) (M.1 107)) 98 r (nI (sLen w h st))) 99 (sgF (M.1 99) (fun i => if i < sLen w h st then wordR C w h s st e i else 0) (60 * r) (i + 1))) := by
            refine wa_iload dX10_reads_93 2 rfl ?_
            refine wa_iload dX10_reads_95 1 rfl ?_
            refine wa_aload_n dX10_reads_97 rfl 3 rfl ?_
            refine wa_getr gX10_reads_98 (rfl) rfl ?_
            refine wa_iload_n dX10_reads_101 rfl 6 rfl ?_
            refine wa_ialdN (e := r) dX10_reads_102 (rfl) (by omega) (by decide) ?_
            refine wa_eqi (y := (nI (sLen w h st))) (by rw [wIa_n (by decide), wI_at]) ?_
            refine wa_icmp_geN (a := i) (b := sLen w h st) 115 dX10_reads_103 (by decide) (by omega) (by omega) (fun c_103 => ?_) (fun c_103 => ?_)
            · refine wa_iconst (0) dX10_reads_115 (by decide) ?_
              refine wa_iaddN (a := wCnt (fun i => !decide (wordR C w h s st e i = -1)) (min (i) (sLen w h st))) (b := 0) dX10_reads_116 ?_
              refine wa_eqi (y := (nI (wCnt (fun i => !decide (wordR C w h s st e i = -1)) (min (i + 1) (sLen w h st))))) (congrArg nI (by first | (rw [Nat.add_zero, show min (i + 1) (sLen w h st) = min i (sLen w h st) by omega]; done) | (rw [Nat.add_zero, show min (i + 1) (sLen w h st) = i + 1 by omega, show min i (sLen w h st) = i by omega]; simp only [wCnt]; rw [if_neg (by rw [(wR_neg hCS (sAt_lt hst (by omega))).mp c_108]; decide), Nat.add_zero]; done) | (rw [show min (i + 1) (sLen w h st) = i + 1 by omega, show min i (sLen w h st) = i by omega]; simp only [wCnt]; rw [if_pos (by rw [decide_eq_false (fun q => c_108 ((wR_neg hCS (sAt_lt hst (by omega))).mpr q))]; rfl)]; done))) ?_
              refine wa_istore [(4, .int (nI (wCnt (fun i => !decide (wordR C w h s st e i = -1)) (min (i + 1) (sLen w h st))))), (6, .int ((fun i => if i < sLen w h st then wordR C w h s st e i else 0) i)), (5, .int (nI (i))), (0, wm_r G (96)), (1, .int (nI (st))), (2, .int (nI (e))), (3, .int (nI (r)))] dX10_reads_117 (by decide) rfl ?_
              refine wa_iinc ((nI (i + 1))) [(5, .int (nI (i + 1))), (4, .int (nI (wCnt (fun i => !decide (wordR C w h s st e i = -1)) (min (i + 1) (sLen w h st))))), (6, .int ((fun i => if i < sLen w h st then wordR C w h s st e i else 0) i)), (0, wm_r G (96)), (1, .int (nI (st))), (2, .int (nI (e))), (3, .int (nI (r)))] dX10_reads_119 2 rfl (nI_inc _) (by decide) rfl ?_
              refine wa_goto 47 dX10_reads_122 (by decide) ?_
              refine wa_sub [0, 1, 3, 4, 5, 6] rfl ?_
              exact ih_47 (i + 1) (by omega) (by omega)
            · refine wa_iload dX10_reads_106 0 rfl ?_
              refine wa_eqi (y := (wordR C w h s st e i)) (by show (if i < _ then _ else _) = _; rw [if_pos (show i < sLen w h st by omega)]) ?_
              refine wa_if_lt 115 dX10_reads_108 (by decide) (fun c_108 => ?_) (fun c_108 => ?_)
              · refine wa_iconst (0) dX10_reads_115 (by decide) ?_
                refine wa_iaddN (a := wCnt (fun i => !decide (wordR C w h s st e i = -1)) (min (i) (sLen w h st))) (b := 0) dX10_reads_116 ?_
                refine wa_eqi (y := (nI (wCnt (fun i => !decide (wordR C w h s st e i = -1)) (min (i + 1) (sLen w h st))))) (congrArg nI (by first | (rw [Nat.add_zero, show min (i + 1) (sLen w h st) = min i (sLen w h st) by omega]; done) | (rw [Nat.add_zero, show min (i + 1) (sLen w h st) = i + 1 by omega, show min i (sLen w h st) = i by omega]; simp only [wCnt]; rw [if_neg (by rw [(wR_neg hCS (sAt_lt hst (by omega))).mp c_108]; decide), Nat.add_zero]; done) | (rw [show min (i + 1) (sLen w h st) = i + 1 by omega, show min i (sLen w h st) = i by omega]; simp only [wCnt]; rw [if_pos (by rw [decide_eq_false (fun q => c_108 ((wR_neg hCS (sAt_lt hst (by omega))).mpr q))]; rfl)]; done))) ?_
                refine wa_istore [(4, .int (nI (wCnt (fun i => !decide (wordR C w h s st e i = -1)) (min (i + 1) (sLen w h st))))), (6, .int ((fun i => if i < sLen w h st then wordR C w h s st e i else 0) i)), (5, .int (nI (i))), (0, wm_r G (96)), (1, .int (nI (st))), (2, .int (nI (e))), (3, .int (nI (r)))] dX10_reads_117 (by decide) rfl ?_
                refine wa_iinc ((nI (i + 1))) [(5, .int (nI (i + 1))), (4, .int (nI (wCnt (fun i => !decide (wordR C w h s st e i = -1)) (min (i + 1) (sLen w h st))))), (6, .int ((fun i => if i < sLen w h st then wordR C w h s st e i else 0) i)), (0, wm_r G (96)), (1, .int (nI (st))), (2, .int (nI (e))), (3, .int (nI (r)))] dX10_reads_119 2 rfl (nI_inc _) (by decide) rfl ?_
                refine wa_goto 47 dX10_reads_122 (by decide) ?_
                refine wa_sub [0, 1, 3, 4, 5, 6] rfl ?_
                exact ih_47 (i + 1) (by omega) (by omega)
              · refine wa_iconst (1) dX10_reads_111 (by decide) ?_
                refine wa_goto 116 dX10_reads_112 (by decide) ?_
                refine wa_iaddN (a := wCnt (fun i => !decide (wordR C w h s st e i = -1)) (min (i) (sLen w h st))) (b := 1) dX10_reads_116 ?_
                refine wa_eqi (y := (nI (wCnt (fun i => !decide (wordR C w h s st e i = -1)) (min (i + 1) (sLen w h st))))) (congrArg nI (by first | (rw [Nat.add_zero, show min (i + 1) (sLen w h st) = min i (sLen w h st) by omega]; done) | (rw [Nat.add_zero, show min (i + 1) (sLen w h st) = i + 1 by omega, show min i (sLen w h st) = i by omega]; simp only [wCnt]; rw [if_neg (by rw [(wR_neg hCS (sAt_lt hst (by omega))).mp c_108]; decide), Nat.add_zero]; done) | (rw [show min (i + 1) (sLen w h st) = i + 1 by omega, show min i (sLen w h st) = i by omega]; simp only [wCnt]; rw [if_pos (by rw [decide_eq_false (fun q => c_108 ((wR_neg hCS (sAt_lt hst (by omega))).mpr q))]; rfl)]; done))) ?_
                refine wa_istore [(4, .int (nI (wCnt (fun i => !decide (wordR C w h s st e i = -1)) (min (i + 1) (sLen w h st))))), (6, .int ((fun i => if i < sLen w h st then wordR C w h s st e i else 0) i)), (5, .int (nI (i))), (0, wm_r G (96)), (1, .int (nI (st))), (2, .int (nI (e))), (3, .int (nI (r)))] dX10_reads_117 (by decide) rfl ?_
                refine wa_iinc ((nI (i + 1))) [(5, .int (nI (i + 1))), (4, .int (nI (wCnt (fun i => !decide (wordR C w h s st e i = -1)) (min (i + 1) (sLen w h st))))), (6, .int ((fun i => if i < sLen w h st then wordR C w h s st e i else 0) i)), (0, wm_r G (96)), (1, .int (nI (st))), (2, .int (nI (e))), (3, .int (nI (r)))] dX10_reads_119 2 rfl (nI_inc _) (by decide) rfl ?_
                refine wa_goto 47 dX10_reads_122 (by decide) ?_
                refine wa_sub [0, 1, 3, 4, 5, 6] rfl ?_
                exact ih_47 (i + 1) (by omega) (by omega)
          exact L_93  
  refine wa_eqm (M' := wIa (wI (lyM M (w * h) (M.1 107)) 98 r (nI (sLen w h st))) 99 (sgF (M.1 99) (fun i => if i < sLen w h st then wordR C w h s st e i else 0) (60 * r) (0))) (sg_start (by rw [wI_c (by decide)]; exact wIa_n (by decide))) ?_
  exact L_47 _ 0 (Nat.lt_succ_self _) (Nat.zero_le _)

theorem x_stands_bad {G : wm_G} {M : wm_M} (l : Int32) (hl : wIn l 4 = false) : MD G t_X10_stands [wm_r G (96), .int (l)] (M) (some (.int (-1))) (M) := by
  refine wm_met (by decide) (Nat.le_of_ble_eq_true rfl) ?_
  show WA G t_X10_stands (fun v_ N_ => v_ = some (.int (-1)) ∧ N_ = M) 0 [(0, wm_r G (96)), (1, .int (l))] [] (M)
  refine wa_iload_n dX10_stands_0 rfl 1 rfl ?_
  refine wa_cSi (x_isLaw l) vX10_isLaw iX10_stands_1 rfl rfl (Nat.le_of_ble_eq_true rfl) ⟨by decide, by decide⟩ ?_
  refine wa_eqi (y := (0)) (by rw [hl]; rfl) ?_
  refine wa_if_ne 9 dX10_stands_4 (by decide) (fun c_4 => absurd c_4 (by decide)) (fun c_4 => ?_)
  refine wa_iconst (-1) dX10_stands_7 (by decide) ?_
  exact wa_iret dX10_stands_8 rfl ⟨congrArg (fun z => some (Value.int z)) (rfl), rfl⟩

theorem x_stands_no {G : wm_G} {M : wm_M} (l : Nat) (hl : l < 4) (hz : M.1 109 l = -1) : MD G t_X10_stands [wm_r G (96), .int (nI (l))] (M) (some (.int (-3))) (xNote M 1) := by
  refine wm_met (by decide) (Nat.le_of_ble_eq_true rfl) ?_
  show WA G t_X10_stands (fun v_ N_ => v_ = some (.int (-3)) ∧ N_ = xNote M 1) 0 [(0, wm_r G (96)), (1, .int (nI (l)))] [] (M)
  refine wa_iload_n dX10_stands_0 rfl 1 rfl ?_
  refine wa_cSi (x_isLaw (nI l)) vX10_isLaw iX10_stands_1 rfl rfl (Nat.le_of_ble_eq_true rfl) ⟨by decide, by decide⟩ ?_
  refine wa_eqi (y := (1)) (by rw [wIn_nI (by omega), decide_eq_true (by omega)]; rfl) ?_
  refine wa_if_ne 9 dX10_stands_4 (by decide) (fun c_4 => ?_) (fun c_4 => absurd c_4 (by decide))
  refine wa_aload_n dX10_stands_9 rfl 0 rfl ?_
  refine wa_getr gX10_stands_10 (rfl) rfl ?_
  refine wa_iload_n dX10_stands_13 rfl 1 rfl ?_
  refine wa_ialdN (e := l) dX10_stands_14 (rfl) (by omega) (by decide) ?_
  refine wa_eqi (y := (-1)) (hz) ?_
  refine wa_if_ge 24 dX10_stands_15 (by decide) (fun c_15 => absurd c_15 (by decide)) (fun c_15 => ?_)
  refine wa_aload_n dX10_stands_18 rfl 0 rfl ?_
  refine wa_iconst (1) dX10_stands_19 (by decide) ?_
  refine wa_cVi (x_meets 1 (by decide) (by decide)) vX10_meets iX10_stands_20 (rfl) rfl rfl rfl (Nat.le_of_ble_eq_true rfl) ⟨by decide, by decide⟩ ?_
  exact wa_iret dX10_stands_23 rfl ⟨congrArg (fun z => some (Value.int z)) (rfl), rfl⟩

theorem x_stands_ok {G : wm_G} {M : wm_M} (C : wm_M) (w h s : Nat) (hX : xStn C M w h) (hW : TW C w h) (hXL : xLaw C M) (hCL : cLaw C) (hCS : cStn C (w * h)) (hQ : ∀ k, k < w * h → M.1 107 k = nI (sQ s k)) (l z : Nat) (hL : LZ C l z) : MD G t_X10_stands [wm_r G (96), .int (nI (l))] (M) (some (.int (stnA (levB w h (C.1 18) (C.1 19) (C.1 20) (C.1 21) (C.1 (31 + l)) z s)))) (xTell (lyM M (w * h) (M.1 107)) (nI (wSum (fun st => wCnt (fun e => decide (2 ≤ levIn w h (C.1 18) (C.1 19) (C.1 20) (C.1 21) (C.1 (31 + l)) z s st e)) 2) (w + h)))) := by
  obtain ⟨x10, x11, x12, x103, x104, x105, x106⟩ := id hX
  have hn6 := TW_n hW
  have hw3 := hW.2.2.1
  have hh2 := hW.2.2.2
  have hQ1 : XQ C (lyM M (w * h) (M.1 107)) w h s := XQ.lay (s := s) hW hX hXL hCL hCS hQ
  have hz3 := hL.2.2.2
  have hl4 := hL.1
  have hlz : M.1 109 l = nI z := (hXL.1 l hl4).trans hL.2.1
  have hlw : ∀ i, i < z → M.1 110 (3 * l + i) = C.1 (31 + l) i := fun i hi => hXL.2 l hl4 z hz3 hL.2.1 i hi
  have hwd : ∀ i, i < z → ∃ x, x < 8 ∧ C.1 (31 + l) i = nI x := by
    rcases hCL l hl4 with q | ⟨z2, q, q2⟩
    · exact absurd (hL.2.1.symm.trans q) (nI_nem1 (by omega))
    · have e : z2 = z := (nI_eq (by have := q.2.2.2; omega) (by omega)).mp (q.2.1.symm.trans hL.2.1)
      subst e; exact q2
  have hl := hL.1
  refine wm_met (by decide) (Nat.le_of_ble_eq_true rfl) ?_
  show WA G t_X10_stands (fun v_ N_ => v_ = some (.int (stnA (levB w h (C.1 18) (C.1 19) (C.1 20) (C.1 21) (C.1 (31 + l)) z s))) ∧ N_ = xTell (lyM M (w * h) (M.1 107)) (nI (wSum (fun st => wCnt (fun e => decide (2 ≤ levIn w h (C.1 18) (C.1 19) (C.1 20) (C.1 21) (C.1 (31 + l)) z s st e)) 2) (w + h)))) 0 [(0, wm_r G (96)), (1, .int (nI (l)))] [] (M)
  refine wa_iload_n dX10_stands_0 rfl 1 rfl ?_
  refine wa_cSi (x_isLaw (nI l)) vX10_isLaw iX10_stands_1 rfl rfl (Nat.le_of_ble_eq_true rfl) ⟨by decide, by decide⟩ ?_
  refine wa_eqi (y := (1)) (by rw [wIn_nI (by omega), decide_eq_true (by omega)]; rfl) ?_
  refine wa_if_ne 9 dX10_stands_4 (by decide) (fun c_4 => ?_) (fun c_4 => absurd c_4 (by decide))
  refine wa_aload_n dX10_stands_9 rfl 0 rfl ?_
  refine wa_getr gX10_stands_10 (rfl) rfl ?_
  refine wa_iload_n dX10_stands_13 rfl 1 rfl ?_
  refine wa_ialdN (e := l) dX10_stands_14 (rfl) (by omega) (by decide) ?_
  refine wa_eqi (y := (nI (z))) (hlz) ?_
  refine wa_if_geN (a := z) 24 dX10_stands_15 (by decide) (by omega) (fun c_15 => ?_) (fun c_15 => absurd c_15 (by omega))
  refine wa_aload_n dX10_stands_24 rfl 0 rfl ?_
  refine wa_cVv (x_layNow (w * h) hn6 x12) vX10_layNow iX10_stands_25 (rfl) rfl rfl rfl (Nat.le_of_ble_eq_true rfl) ⟨by decide, by decide⟩ ?_
  refine wa_iconst (0) dX10_stands_28 (by decide) ?_
  refine wa_eqi (y := (nI (wSum (fun st => wCnt (fun e => decide (2 ≤ levIn w h (C.1 18) (C.1 19) (C.1 20) (C.1 21) (C.1 (31 + l)) z s st e)) 2) 0))) (rfl) ?_
  refine wa_istore_n [(2, .int (nI (wSum (fun st => wCnt (fun e => decide (2 ≤ levIn w h (C.1 18) (C.1 19) (C.1 20) (C.1 21) (C.1 (31 + l)) z s st e)) 2) 0))), (0, wm_r G (96)), (1, .int (nI (l)))] dX10_stands_29 rfl (by decide) rfl ?_
  refine wa_iconst (0) dX10_stands_30 (by decide) ?_
  refine wa_istore_n [(3, .int (0)), (2, .int (nI (wSum (fun st => wCnt (fun e => decide (2 ≤ levIn w h (C.1 18) (C.1 19) (C.1 20) (C.1 21) (C.1 (31 + l)) z s st e)) 2) 0))), (0, wm_r G (96)), (1, .int (nI (l)))] dX10_stands_31 rfl (by decide) rfl ?_
  have L_32 : ∀ (n_ : Nat) (st : Nat), (w + h - st) < n_ → (st ≤ w + h) → WA G t_X10_stands (fun v_ N_ => v_ = some (.int (stnA (levB w h (C.1 18) (C.1 19) (C.1 20) (C.1 21) (C.1 (31 + l)) z s))) ∧ N_ = xTell (lyM M (w * h) (M.1 107)) (nI (wSum (fun st => wCnt (fun e => decide (2 ≤ levIn w h (C.1 18) (C.1 19) (C.1 20) (C.1 21) (C.1 (31 + l)) z s st e)) 2) (w + h)))) 32 [(3, .int (nI (st))), (2, .int (nI (wSum (fun st => wCnt (fun e => decide (2 ≤ levIn w h (C.1 18) (C.1 19) (C.1 20) (C.1 21) (C.1 (31 + l)) z s st e)) 2) st))), (0, wm_r G (96)), (1, .int (nI (l)))] [] (lyM M (w * h) (M.1 107)) := by
    intro n_
    induction n_ with
    | zero => intro st h_; exact absurd h_ (Nat.not_lt_zero _)
    | succ n_ ih_32 =>
      intro st h_ hst
      refine wa_iload_n dX10_stands_32 rfl 0 rfl ?_
      refine wa_aload_n dX10_stands_33 rfl 2 rfl ?_
      refine wa_cVi (x_streetMany C w h hQ1.2.1 hW) vX10_streetMany iX10_stands_34 (rfl) rfl rfl rfl (Nat.le_of_ble_eq_true rfl) ⟨by decide, by decide⟩ ?_
      refine wa_icmp_geN (a := st) (b := w + h) 81 dX10_stands_37 (by decide) (by omega) (by omega) (fun c_37 => ?_) (fun c_37 => ?_)
      · refine wa_aload_n dX10_stands_81 rfl 2 rfl ?_
        refine wa_iload_n dX10_stands_82 rfl 3 rfl ?_
        refine wa_cVi (x_readBest1 C w h s hQ1 l z hL) vX10_readBest iX10_stands_83 (rfl) rfl rfl rfl (Nat.le_of_ble_eq_true rfl) ⟨by decide, by decide⟩ ?_
        have hlb : levB w h (C.1 18) (C.1 19) (C.1 20) (C.1 21) (C.1 (31 + l)) z s ≤ 3 := levB_le
        refine wa_istore_n [(3, .int (nI (levB w h (C.1 18) (C.1 19) (C.1 20) (C.1 21) (C.1 (31 + l)) z s))), (2, .int (nI (wSum (fun st => wCnt (fun e => decide (2 ≤ levIn w h (C.1 18) (C.1 19) (C.1 20) (C.1 21) (C.1 (31 + l)) z s st e)) 2) st))), (0, wm_r G (96)), (1, .int (nI (l)))] dX10_stands_86 rfl (by decide) rfl ?_
        refine wa_aload_n dX10_stands_87 rfl 2 rfl ?_
        refine wa_iload_n dX10_stands_88 rfl 1 rfl ?_
        refine wa_iload_n dX10_stands_89 rfl 0 rfl ?_
        refine wa_iconst (3) dX10_stands_90 (by decide) ?_
        refine wa_icmp_neN (a := levB w h (C.1 18) (C.1 19) (C.1 20) (C.1 21) (C.1 (31 + l)) z s) (b := 3) 98 dX10_stands_91 (by decide) (by omega) (by omega) (fun c_91 => ?_) (fun c_91 => ?_)
        · refine wa_iload_n dX10_stands_98 rfl 0 rfl ?_
          refine wa_if_leN (a := levB w h (C.1 18) (C.1 19) (C.1 20) (C.1 21) (C.1 (31 + l)) z s) 106 dX10_stands_99 (by decide) (by omega) (fun c_99 => ?_) (fun c_99 => ?_)
          · refine wa_iconst (0) dX10_stands_106 (by decide) ?_
            refine wa_eqi (y := stnA (levB w h (C.1 18) (C.1 19) (C.1 20) (C.1 21) (C.1 (31 + l)) z s)) (by unfold stnA; rw [if_neg c_91, if_pos (by omega)]) ?_
            rw [show st = w + h by omega]
            refine wa_cVi (x_tells (nI (wSum (fun st => wCnt (fun e => decide (2 ≤ levIn w h (C.1 18) (C.1 19) (C.1 20) (C.1 21) (C.1 (31 + l)) z s st e)) 2) (w + h))) (stnA (levB w h (C.1 18) (C.1 19) (C.1 20) (C.1 21) (C.1 (31 + l)) z s))) vX10_tells iX10_stands_107 (rfl) rfl rfl rfl (Nat.le_of_ble_eq_true rfl) ⟨by decide, by decide⟩ ?_
            exact wa_iret dX10_stands_110 rfl ⟨congrArg (fun z => some (Value.int z)) (rfl), rfl⟩
          · refine wa_iconst (1) dX10_stands_102 (by decide) ?_
            refine wa_eqi (y := stnA (levB w h (C.1 18) (C.1 19) (C.1 20) (C.1 21) (C.1 (31 + l)) z s)) (by unfold stnA; rw [if_neg c_91, if_neg (by omega)]) ?_
            rw [show st = w + h by omega]
            refine wa_goto 107 dX10_stands_103 (by decide) ?_
            refine wa_cVi (x_tells (nI (wSum (fun st => wCnt (fun e => decide (2 ≤ levIn w h (C.1 18) (C.1 19) (C.1 20) (C.1 21) (C.1 (31 + l)) z s st e)) 2) (w + h))) (stnA (levB w h (C.1 18) (C.1 19) (C.1 20) (C.1 21) (C.1 (31 + l)) z s))) vX10_tells iX10_stands_107 (rfl) rfl rfl rfl (Nat.le_of_ble_eq_true rfl) ⟨by decide, by decide⟩ ?_
            exact wa_iret dX10_stands_110 rfl ⟨congrArg (fun z => some (Value.int z)) (rfl), rfl⟩
        · refine wa_iconst (2) dX10_stands_94 (by decide) ?_
          refine wa_eqi (y := stnA (levB w h (C.1 18) (C.1 19) (C.1 20) (C.1 21) (C.1 (31 + l)) z s)) (by unfold stnA; rw [if_pos c_91]) ?_
          rw [show st = w + h by omega]
          refine wa_goto 107 dX10_stands_95 (by decide) ?_
          refine wa_cVi (x_tells (nI (wSum (fun st => wCnt (fun e => decide (2 ≤ levIn w h (C.1 18) (C.1 19) (C.1 20) (C.1 21) (C.1 (31 + l)) z s st e)) 2) (w + h))) (stnA (levB w h (C.1 18) (C.1 19) (C.1 20) (C.1 21) (C.1 (31 + l)) z s))) vX10_tells iX10_stands_107 (rfl) rfl rfl rfl (Nat.le_of_ble_eq_true rfl) ⟨by decide, by decide⟩ ?_
          exact wa_iret dX10_stands_110 rfl ⟨congrArg (fun z => some (Value.int z)) (rfl), rfl⟩
      · refine wa_iconst (0) dX10_stands_40 (by decide) ?_
        refine wa_istore [(4, .int (0)), (3, .int (nI (st))), (2, .int (nI (wSum (fun st => wCnt (fun e => decide (2 ≤ levIn w h (C.1 18) (C.1 19) (C.1 20) (C.1 21) (C.1 (31 + l)) z s st e)) 2) st))), (0, wm_r G (96)), (1, .int (nI (l)))] dX10_stands_41 (by decide) rfl ?_
        have L_43 : ∀ (n_ : Nat) (e : Nat), (2 - e) < n_ → (e ≤ 2) → WA G t_X10_stands (fun v_ N_ => v_ = some (.int (stnA (levB w h (C.1 18) (C.1 19) (C.1 20) (C.1 21) (C.1 (31 + l)) z s))) ∧ N_ = xTell (lyM M (w * h) (M.1 107)) (nI (wSum (fun st => wCnt (fun e => decide (2 ≤ levIn w h (C.1 18) (C.1 19) (C.1 20) (C.1 21) (C.1 (31 + l)) z s st e)) 2) (w + h)))) 43 [(4, .int (nI (e))), (3, .int (nI (st))), (2, .int (nI (wSum (fun st => wCnt (fun e => decide (2 ≤ levIn w h (C.1 18) (C.1 19) (C.1 20) (C.1 21) (C.1 (31 + l)) z s st e)) 2) st + wCnt (fun e => decide (2 ≤ levIn w h (C.1 18) (C.1 19) (C.1 20) (C.1 21) (C.1 (31 + l)) z s st e)) e))), (0, wm_r G (96)), (1, .int (nI (l)))] [] (lyM M (w * h) (M.1 107)) := by
          intro n_
          induction n_ with
          | zero => intro e h_; exact absurd h_ (Nat.not_lt_zero _)
          | succ n_ ih_43 =>
            intro e h_ he
            refine wa_iload dX10_stands_43 0 rfl ?_
            refine wa_iconst (2) dX10_stands_45 (by decide) ?_
            refine wa_icmp_geN (a := e) (b := 2) 75 dX10_stands_46 (by decide) (by omega) (by omega) (fun c_46 => ?_) (fun c_46 => ?_)
            · refine wa_iinc ((nI (st + 1))) [(3, .int (nI (st + 1))), (4, .int (nI (e))), (2, .int (nI (wSum (fun st => wCnt (fun e => decide (2 ≤ levIn w h (C.1 18) (C.1 19) (C.1 20) (C.1 21) (C.1 (31 + l)) z s st e)) 2) st + wCnt (fun e => decide (2 ≤ levIn w h (C.1 18) (C.1 19) (C.1 20) (C.1 21) (C.1 (31 + l)) z s st e)) e))), (0, wm_r G (96)), (1, .int (nI (l)))] dX10_stands_75 1 rfl (nI_inc _) (by decide) rfl ?_
              refine wa_goto 32 dX10_stands_78 (by decide) ?_
              refine wa_sub [0, 2, 3, 4] rfl ?_
              rw [show wSum (fun st => wCnt (fun e => decide (2 ≤ levIn w h (C.1 18) (C.1 19) (C.1 20) (C.1 21) (C.1 (31 + l)) z s st e)) 2) st + wCnt (fun e => decide (2 ≤ levIn w h (C.1 18) (C.1 19) (C.1 20) (C.1 21) (C.1 (31 + l)) z s st e)) e = wSum (fun st => wCnt (fun e => decide (2 ≤ levIn w h (C.1 18) (C.1 19) (C.1 20) (C.1 21) (C.1 (31 + l)) z s st e)) 2) (st + 1) by rw [show e = 2 by omega]; rfl]
              exact ih_32 (st + 1) (by omega) (by omega)
            · refine wa_iload_n dX10_stands_49 rfl 2 rfl ?_
              refine wa_aload_n dX10_stands_50 rfl 3 rfl ?_
              refine wa_iload_n dX10_stands_51 rfl 4 rfl ?_
              refine wa_iload_n dX10_stands_52 rfl 1 rfl ?_
              refine wa_iload dX10_stands_53 0 rfl ?_
              refine wa_cVi (x_readIn C w h s hQ1 l z hL st e (by omega) (by omega)) vX10_readIn iX10_stands_55 (rfl) rfl rfl rfl (Nat.le_of_ble_eq_true rfl) ⟨by decide, by decide⟩ ?_
              have hl1 : levIn w h (C.1 18) (C.1 19) (C.1 20) (C.1 21) (C.1 (31 + l)) z s st e ≤ 3 := levIn_le
              refine wa_iconst (1) dX10_stands_58 (by decide) ?_
              refine wa_icmp_leN (a := levIn w h (C.1 18) (C.1 19) (C.1 20) (C.1 21) (C.1 (31 + l)) z s st e) (b := 1) 66 dX10_stands_59 (by decide) (by omega) (by omega) (fun c_59 => ?_) (fun c_59 => ?_)
              · refine wa_iconst (0) dX10_stands_66 (by decide) ?_
                refine wa_iaddN (a := wSum (fun st => wCnt (fun e => decide (2 ≤ levIn w h (C.1 18) (C.1 19) (C.1 20) (C.1 21) (C.1 (31 + l)) z s st e)) 2) st + wCnt (fun e => decide (2 ≤ levIn w h (C.1 18) (C.1 19) (C.1 20) (C.1 21) (C.1 (31 + l)) z s st e)) e) (b := 0) dX10_stands_67 ?_
                refine wa_eqi (y := (nI (wSum (fun st => wCnt (fun e => decide (2 ≤ levIn w h (C.1 18) (C.1 19) (C.1 20) (C.1 21) (C.1 (31 + l)) z s st e)) 2) st + wCnt (fun e => decide (2 ≤ levIn w h (C.1 18) (C.1 19) (C.1 20) (C.1 21) (C.1 (31 + l)) z s st e)) (e + 1)))) (congrArg nI (by simp only [wCnt]; first | (rw [if_pos (by simp; omega)]; omega) | (rw [if_neg (by simp; omega)]; omega))) ?_
                refine wa_istore_n [(2, .int (nI (wSum (fun st => wCnt (fun e => decide (2 ≤ levIn w h (C.1 18) (C.1 19) (C.1 20) (C.1 21) (C.1 (31 + l)) z s st e)) 2) st + wCnt (fun e => decide (2 ≤ levIn w h (C.1 18) (C.1 19) (C.1 20) (C.1 21) (C.1 (31 + l)) z s st e)) (e + 1)))), (4, .int (nI (e))), (3, .int (nI (st))), (0, wm_r G (96)), (1, .int (nI (l)))] dX10_stands_68 rfl (by decide) rfl ?_
                refine wa_iinc ((nI (e + 1))) [(4, .int (nI (e + 1))), (2, .int (nI (wSum (fun st => wCnt (fun e => decide (2 ≤ levIn w h (C.1 18) (C.1 19) (C.1 20) (C.1 21) (C.1 (31 + l)) z s st e)) 2) st + wCnt (fun e => decide (2 ≤ levIn w h (C.1 18) (C.1 19) (C.1 20) (C.1 21) (C.1 (31 + l)) z s st e)) (e + 1)))), (3, .int (nI (st))), (0, wm_r G (96)), (1, .int (nI (l)))] dX10_stands_69 1 rfl (nI_inc _) (by decide) rfl ?_
                refine wa_goto 43 dX10_stands_72 (by decide) ?_
                refine wa_sub [0, 2, 1, 3, 4] rfl ?_
                exact ih_43 (e + 1) (by omega) (by omega)
              · refine wa_iconst (1) dX10_stands_62 (by decide) ?_
                refine wa_goto 67 dX10_stands_63 (by decide) ?_
                refine wa_iaddN (a := wSum (fun st => wCnt (fun e => decide (2 ≤ levIn w h (C.1 18) (C.1 19) (C.1 20) (C.1 21) (C.1 (31 + l)) z s st e)) 2) st + wCnt (fun e => decide (2 ≤ levIn w h (C.1 18) (C.1 19) (C.1 20) (C.1 21) (C.1 (31 + l)) z s st e)) e) (b := 1) dX10_stands_67 ?_
                refine wa_eqi (y := (nI (wSum (fun st => wCnt (fun e => decide (2 ≤ levIn w h (C.1 18) (C.1 19) (C.1 20) (C.1 21) (C.1 (31 + l)) z s st e)) 2) st + wCnt (fun e => decide (2 ≤ levIn w h (C.1 18) (C.1 19) (C.1 20) (C.1 21) (C.1 (31 + l)) z s st e)) (e + 1)))) (congrArg nI (by simp only [wCnt]; first | (rw [if_pos (by simp; omega)]; omega) | (rw [if_neg (by simp; omega)]; omega))) ?_
                refine wa_istore_n [(2, .int (nI (wSum (fun st => wCnt (fun e => decide (2 ≤ levIn w h (C.1 18) (C.1 19) (C.1 20) (C.1 21) (C.1 (31 + l)) z s st e)) 2) st + wCnt (fun e => decide (2 ≤ levIn w h (C.1 18) (C.1 19) (C.1 20) (C.1 21) (C.1 (31 + l)) z s st e)) (e + 1)))), (4, .int (nI (e))), (3, .int (nI (st))), (0, wm_r G (96)), (1, .int (nI (l)))] dX10_stands_68 rfl (by decide) rfl ?_
                refine wa_iinc ((nI (e + 1))) [(4, .int (nI (e + 1))), (2, .int (nI (wSum (fun st => wCnt (fun e => decide (2 ≤ levIn w h (C.1 18) (C.1 19) (C.1 20) (C.1 21) (C.1 (31 + l)) z s st e)) 2) st + wCnt (fun e => decide (2 ≤ levIn w h (C.1 18) (C.1 19) (C.1 20) (C.1 21) (C.1 (31 + l)) z s st e)) (e + 1)))), (3, .int (nI (st))), (0, wm_r G (96)), (1, .int (nI (l)))] dX10_stands_69 1 rfl (nI_inc _) (by decide) rfl ?_
                refine wa_goto 43 dX10_stands_72 (by decide) ?_
                refine wa_sub [0, 2, 1, 3, 4] rfl ?_
                exact ih_43 (e + 1) (by omega) (by omega)
        exact L_43 _ 0 (Nat.lt_succ_self _) (Nat.zero_le _)
  exact L_32 _ 0 (Nat.lt_succ_self _) (Nat.zero_le _)

theorem x_laws {G : wm_G} {M : wm_M} (C : wm_M) (w h s : Nat) (hX : xStn C M w h) (hW : TW C w h) (hXL : xLaw C M) (hCL : cLaw C) (hCS : cStn C (w * h)) (hQ : ∀ k, k < w * h → M.1 107 k = nI (sQ s k)) : MD G t_X10_laws [wm_r G (96)] (M) (some (.int (nI (wBits (fun l => decide (2 ≤ lvQ C w h s l)) 4)))) (xTell (lyM M (w * h) (M.1 107)) (nI (wBits (fun l => decide (1 ≤ lvQ C w h s l)) 4))) := by
  obtain ⟨x10, x11, x12, x103, x104, x105, x106⟩ := id hX
  have hn6 := TW_n hW
  have hw3 := hW.2.2.1
  have hh2 := hW.2.2.2
  have hQ1 : XQ C (lyM M (w * h) (M.1 107)) w h s := XQ.lay (s := s) hW hX hXL hCL hCS hQ
  refine wm_met (by decide) (Nat.le_of_ble_eq_true rfl) ?_
  show WA G t_X10_laws (fun v_ N_ => v_ = some (.int (nI (wBits (fun l => decide (2 ≤ lvQ C w h s l)) 4))) ∧ N_ = xTell (lyM M (w * h) (M.1 107)) (nI (wBits (fun l => decide (1 ≤ lvQ C w h s l)) 4))) 0 [(0, wm_r G (96))] [] (M)
  refine wa_aload_n dX10_laws_0 rfl 0 rfl ?_
  refine wa_cVv (x_layNow (w * h) hn6 x12) vX10_layNow iX10_laws_1 (rfl) rfl rfl rfl (Nat.le_of_ble_eq_true rfl) ⟨by decide, by decide⟩ ?_
  refine wa_iconst (0) dX10_laws_4 (by decide) ?_
  refine wa_eqi (y := (nI (wBits (fun l => decide (1 ≤ lvQ C w h s l)) 0))) (rfl) ?_
  refine wa_istore_n [(1, .int (nI (wBits (fun l => decide (1 ≤ lvQ C w h s l)) 0))), (0, wm_r G (96))] dX10_laws_5 rfl (by decide) rfl ?_
  refine wa_iconst (0) dX10_laws_6 (by decide) ?_
  refine wa_istore_n [(2, .int (0)), (1, .int (nI (wBits (fun l => decide (1 ≤ lvQ C w h s l)) 0))), (0, wm_r G (96))] dX10_laws_7 rfl (by decide) rfl ?_
  have L_8 : ∀ (n_ : Nat) (l : Nat), (4 - l) < n_ → (l ≤ 4) → WA G t_X10_laws (fun v_ N_ => v_ = some (.int (nI (wBits (fun l => decide (2 ≤ lvQ C w h s l)) 4))) ∧ N_ = xTell (lyM M (w * h) (M.1 107)) (nI (wBits (fun l => decide (1 ≤ lvQ C w h s l)) 4))) 8 [(2, .int (nI (l))), (1, .int (nI (wBits (fun l => decide (1 ≤ lvQ C w h s l)) l))), (0, wm_r G (96))] [] (lyM M (w * h) (M.1 107)) := by
    intro n_
    induction n_ with
    | zero => intro l h_; exact absurd h_ (Nat.not_lt_zero _)
    | succ n_ ih_8 =>
      intro l h_ hl
      refine wa_iload_n dX10_laws_8 rfl 0 rfl ?_
      refine wa_iconst (4) dX10_laws_9 (by decide) ?_
      refine wa_icmp_geN (a := l) (b := 4) 37 dX10_laws_10 (by decide) (by omega) (by omega) (fun c_10 => ?_) (fun c_10 => ?_)
      · refine wa_aload_n dX10_laws_37 rfl 2 rfl ?_
        refine wa_iload_n dX10_laws_38 rfl 1 rfl ?_
        refine wa_eqi (y := (nI (wBits (fun l => decide (1 ≤ lvQ C w h s l)) 4))) (by rw [show l = 4 by omega]) ?_
        refine wa_aload_n dX10_laws_39 rfl 2 rfl ?_
        refine wa_cVi (x_standing C w h s hQ1) vX10_standing iX10_laws_40 (rfl) rfl rfl rfl (Nat.le_of_ble_eq_true rfl) ⟨by decide, by decide⟩ ?_
        refine wa_cVi (x_tells (nI (wBits (fun l => decide (1 ≤ lvQ C w h s l)) 4)) (nI (wBits (fun l => decide (2 ≤ lvQ C w h s l)) 4))) vX10_tells iX10_laws_43 (rfl) rfl rfl rfl (Nat.le_of_ble_eq_true rfl) ⟨by decide, by decide⟩ ?_
        exact wa_iret dX10_laws_46 rfl ⟨congrArg (fun z => some (Value.int z)) (rfl), rfl⟩
      · refine wa_iload_n dX10_laws_13 rfl 1 rfl ?_
        refine wa_aload_n dX10_laws_14 rfl 2 rfl ?_
        refine wa_iload_n dX10_laws_15 rfl 0 rfl ?_
        refine wa_cVi (x_readBest C w h s hQ1 l (by omega)) vX10_readBest iX10_laws_16 (rfl) rfl rfl rfl (Nat.le_of_ble_eq_true rfl) ⟨by decide, by decide⟩ ?_
        have hlq := lvQ_le (C := C) (w := w) (h := h) (s := s) (l := l)
        refine wa_if_leN (a := lvQ C w h s l) 28 dX10_laws_19 (by decide) (by omega) (fun c_19 => ?_) (fun c_19 => ?_)
        · refine wa_iconst (0) dX10_laws_28 (by decide) ?_
          refine wa_ior dX10_laws_29 ?_
          refine wa_eqi (y := (nI (wBits (fun l => decide (1 ≤ lvQ C w h s l)) (l + 1)))) (by first | exact wBits_t (p := fun l => decide (1 ≤ lvQ C w h s l)) (decide_eq_true (by omega)) (by omega) | exact Int32.or_zero.trans (wBits_f (p := fun l => decide (1 ≤ lvQ C w h s l)) (decide_eq_false (by omega)))) ?_
          refine wa_istore_n [(1, .int (nI (wBits (fun l => decide (1 ≤ lvQ C w h s l)) (l + 1)))), (2, .int (nI (l))), (0, wm_r G (96))] dX10_laws_30 rfl (by decide) rfl ?_
          refine wa_iinc ((nI (l + 1))) [(2, .int (nI (l + 1))), (1, .int (nI (wBits (fun l => decide (1 ≤ lvQ C w h s l)) (l + 1)))), (0, wm_r G (96))] dX10_laws_31 1 rfl (nI_inc _) (by decide) rfl ?_
          refine wa_goto 8 dX10_laws_34 (by decide) ?_
          exact ih_8 (l + 1) (by omega) (by omega)
        · refine wa_iconst (1) dX10_laws_22 (by decide) ?_
          refine wa_iload_n dX10_laws_23 rfl 0 rfl ?_
          refine wa_ishl dX10_laws_24 ?_
          refine wa_goto 29 dX10_laws_25 (by decide) ?_
          refine wa_ior dX10_laws_29 ?_
          refine wa_eqi (y := (nI (wBits (fun l => decide (1 ≤ lvQ C w h s l)) (l + 1)))) (by first | exact wBits_t (p := fun l => decide (1 ≤ lvQ C w h s l)) (decide_eq_true (by omega)) (by omega) | exact Int32.or_zero.trans (wBits_f (p := fun l => decide (1 ≤ lvQ C w h s l)) (decide_eq_false (by omega)))) ?_
          refine wa_istore_n [(1, .int (nI (wBits (fun l => decide (1 ≤ lvQ C w h s l)) (l + 1)))), (2, .int (nI (l))), (0, wm_r G (96))] dX10_laws_30 rfl (by decide) rfl ?_
          refine wa_iinc ((nI (l + 1))) [(2, .int (nI (l + 1))), (1, .int (nI (wBits (fun l => decide (1 ≤ lvQ C w h s l)) (l + 1)))), (0, wm_r G (96))] dX10_laws_31 1 rfl (nI_inc _) (by decide) rfl ?_
          refine wa_goto 8 dX10_laws_34 (by decide) ?_
          exact ih_8 (l + 1) (by omega) (by omega)
  exact L_8 _ 0 (Nat.lt_succ_self _) (Nat.zero_le _)

theorem x_turns9 {G : wm_G} {M : wm_M} (C : wm_M) (w h : Nat) (hX : xStn C M w h) (hW : TW C w h) (s yr : Nat) (hN : xNow M (w * h) s yr) : MA G t_X10_turns [wm_r G (96), .int (-9)] (M) (fun v N => v = none ∧ FrT M N ∧ N.1 111 = M.1 111 ∧ xNow N (w * h) (s) (yr + 1)) := by
  obtain ⟨x10, x11, x12, x103, x104, x105, x106⟩ := id hX
  have hn6 := TW_n hW
  have hw3 := hW.2.2.1
  have hh2 := hW.2.2.2
  refine wm_met (by decide) (Nat.le_of_ble_eq_true rfl) ?_
  show WA G t_X10_turns (fun v N => v = none ∧ FrT M N ∧ N.1 111 = M.1 111 ∧ xNow N (w * h) (s) (yr + 1)) 0 [(0, wm_r G (96)), (1, .int (-9))] [] (M)
  refine wa_iload_n dX10_turns_0 rfl 1 rfl ?_
  refine wa_bipush (-9) dX10_turns_1 (by decide) ?_
  refine wa_icmp_eq 26 dX10_turns_3 (by decide) (fun c_3 => ?_) (fun c_3 => absurd c_3 (by decide))
  refine wa_aload_n dX10_turns_26 rfl 0 rfl ?_
  refine wa_dup dX10_turns_27 rfl ?_
  refine wa_geti gX10_turns_28 (rfl) rfl ?_
  refine wa_eqi (y := (nI (yr))) (hN.2) ?_
  refine wa_iconst (1) dX10_turns_31 (by decide) ?_
  refine wa_iaddN (a := yr) (b := 1) dX10_turns_32 ?_
  refine wa_puti gX10_turns_33 (rfl) rfl ?_
  refine wa_vret dX10_turns_36 rfl ?_
  exact ⟨rfl, FrT.y, wI_c (by decide), fun k hk => by rw [wI_c (by decide)]; exact hN.1 k hk, wI_at⟩

theorem x_turnsk {G : wm_G} {M : wm_M} (C : wm_M) (w h : Nat) (hX : xStn C M w h) (hW : TW C w h) (s yr : Nat) (hN : xNow M (w * h) s yr) (k : Nat) (hk : k < w * h) (hf : sFix (C.1 18 k) = false) : MA G t_X10_turns [wm_r G (96), .int (nI (k))] (M) (fun v N => v = none ∧ FrT M N ∧ N.1 111 = M.1 111 ∧ xNow N (w * h) (sMv s k (sStep (C.1 18 k))) (yr + 1)) := by
  obtain ⟨x10, x11, x12, x103, x104, x105, x106⟩ := id hX
  have hn6 := TW_n hW
  have hw3 := hW.2.2.1
  have hh2 := hW.2.2.2
  refine wm_met (by decide) (Nat.le_of_ble_eq_true rfl) ?_
  show WA G t_X10_turns (fun v N => v = none ∧ FrT M N ∧ N.1 111 = M.1 111 ∧ xNow N (w * h) (sMv s k (sStep (C.1 18 k))) (yr + 1)) 0 [(0, wm_r G (96)), (1, .int (nI (k)))] [] (M)
  refine wa_iload_n dX10_turns_0 rfl 1 rfl ?_
  refine wa_bipush (-9) dX10_turns_1 (by decide) ?_
  refine wa_icmp_eq 26 dX10_turns_3 (by decide) (fun c_3 => absurd c_3 (nI_ne9 (by omega))) (fun c_3 => ?_)
  refine wa_aload_n dX10_turns_6 rfl 0 rfl ?_
  refine wa_getr gX10_turns_7 (rfl) rfl ?_
  refine wa_iload_n dX10_turns_10 rfl 1 rfl ?_
  refine wa_aload_n dX10_turns_11 rfl 0 rfl ?_
  refine wa_getr gX10_turns_12 (rfl) rfl ?_
  refine wa_iload_n dX10_turns_15 rfl 1 rfl ?_
  refine wa_ialdN (e := k) dX10_turns_16 (rfl) (by omega) (by decide) ?_
  refine wa_eqi (y := (nI (sQ s k))) (hN.1 k hk) ?_
  refine wa_aload_n dX10_turns_17 rfl 0 rfl ?_
  refine wa_iload_n dX10_turns_18 rfl 1 rfl ?_
  refine wa_cVi (x_stepOf C w h hX hW k hk) vX10_stepOf iX10_turns_19 (rfl) rfl rfl rfl (Nat.le_of_ble_eq_true rfl) ⟨by decide, by decide⟩ ?_
  refine wa_eqi (y := (nI (sStep (C.1 18 k)))) (congrArg nI (st_of hf)) ?_
  refine wa_iaddN (a := sQ s k) (b := sStep (C.1 18 k)) dX10_turns_22 ?_
  refine wa_iconst (4) dX10_turns_23 (by decide) ?_
  refine wa_iremN (a := sQ s k + (sStep (C.1 18 k))) (b := 4) dX10_turns_24 (by have := sQ_lt s k; have := sStep_le (C.1 18 k); omega) (by omega) (by omega) ?_
  refine wa_iastN (e := k) dX10_turns_25 (rfl) (by omega) (by decide) ?_
  refine wa_aload_n dX10_turns_26 rfl 0 rfl ?_
  refine wa_dup dX10_turns_27 rfl ?_
  refine wa_geti gX10_turns_28 (rfl) rfl ?_
  refine wa_eqi (y := (nI (yr))) (by rw [wI_c (by decide)]; exact hN.2) ?_
  refine wa_iconst (1) dX10_turns_31 (by decide) ?_
  refine wa_iaddN (a := yr) (b := 1) dX10_turns_32 ?_
  refine wa_puti gX10_turns_33 (rfl) rfl ?_
  refine wa_vret dX10_turns_36 rfl ?_
  exact ⟨rfl, FrT.q.tr FrT.y, by rw [wI_c (by decide), wI_c (by decide)], fun j hj => by
    rw [wI_c (by decide)]
    by_cases q : j = k
    · subst q; rw [wI_at, sQ_mv (by omega)]
    · rw [wI_ne (fun e => q e.2), hN.1 j hj, sQ_mvn (by omega) (by omega) q], wI_at⟩

theorem x_turnsX {G : wm_G} {M : wm_M} (C : wm_M) (w h : Nat) (hX : xStn C M w h) (hW : TW C w h) (s yr : Nat) (hN : xNow M (w * h) s yr) (x : Int32) (hm : mtB C (w * h) x = true) : MA G t_X10_turns [wm_r G 96, .int x] M (fun v N => v = none ∧ FrT M N ∧ N.1 111 = M.1 111 ∧ xNow N (w * h) (mvS C s x) (yr + 1)) := by
  have hn6 := TW_n hW
  unfold mvS
  by_cases q : x = -9
  · subst q; rw [if_pos rfl]; exact x_turns9 C w h hX hW s yr hN
  · rw [if_neg q]
    unfold mtB at hm
    rw [decide_eq_false q, Bool.false_or, Bool.and_eq_true] at hm
    obtain ⟨j, hj, rfl⟩ := wIn_ex (by omega) hm.1
    rw [nI_clamp (by omega)] at hm ⊢
    exact x_turnsk C w h hX hW s yr hN j hj (by simpa using hm.2)

theorem x_turn_bad {G : wm_G} {M : wm_M} (C : wm_M) (w h : Nat) (hX : xStn C M w h) (hW : TW C w h) (k : Int32) (hk9 : ¬ k = -9) (hk : wIn k (w * h) = false) : MD G t_X10_turn [wm_r G (96), .int (k)] (M) (some (.int (-1))) (M) := by
  obtain ⟨x10, x11, x12, x103, x104, x105, x106⟩ := id hX
  have hn6 := TW_n hW
  have hw3 := hW.2.2.1
  have hh2 := hW.2.2.2
  refine wm_met (by decide) (Nat.le_of_ble_eq_true rfl) ?_
  show WA G t_X10_turn (fun v_ N_ => v_ = some (.int (-1)) ∧ N_ = M) 0 [(0, wm_r G (96)), (1, .int (k))] [] (M)
  refine wa_iload_n dX10_turn_0 rfl 1 rfl ?_
  refine wa_bipush (-9) dX10_turn_1 (by decide) ?_
  refine wa_icmp_eq 16 dX10_turn_3 (by decide) (fun c_3 => absurd c_3 hk9) (fun c_3 => ?_)
  refine wa_aload_n dX10_turn_6 rfl 0 rfl ?_
  refine wa_iload_n dX10_turn_7 rfl 1 rfl ?_
  refine wa_cVi (x_isStone C w h hX hW k) vX10_isStone iX10_turn_8 (rfl) rfl rfl rfl (Nat.le_of_ble_eq_true rfl) ⟨by decide, by decide⟩ ?_
  refine wa_eqi (y := (0)) (by rw [hk]; rfl) ?_
  refine wa_if_ne 16 dX10_turn_11 (by decide) (fun c_11 => absurd c_11 (by decide)) (fun c_11 => ?_)
  refine wa_iconst (-1) dX10_turn_14 (by decide) ?_
  exact wa_iret dX10_turn_15 rfl ⟨congrArg (fun z => some (Value.int z)) (rfl), rfl⟩

theorem x_turn_un {G : wm_G} {M : wm_M} (C : wm_M) (w h : Nat) (hX : xStn C M w h) (hW : TW C w h) (k : Nat) (hk : k < w * h) (hf : sFix (C.1 18 k) = true) : MD G t_X10_turn [wm_r G (96), .int (nI (k))] (M) (some (.int (-3))) (xNote M 3) := by
  obtain ⟨x10, x11, x12, x103, x104, x105, x106⟩ := id hX
  have hn6 := TW_n hW
  have hw3 := hW.2.2.1
  have hh2 := hW.2.2.2
  refine wm_met (by decide) (Nat.le_of_ble_eq_true rfl) ?_
  show WA G t_X10_turn (fun v_ N_ => v_ = some (.int (-3)) ∧ N_ = xNote M 3) 0 [(0, wm_r G (96)), (1, .int (nI (k)))] [] (M)
  refine wa_iload_n dX10_turn_0 rfl 1 rfl ?_
  refine wa_bipush (-9) dX10_turn_1 (by decide) ?_
  refine wa_icmp_eq 16 dX10_turn_3 (by decide) (fun c_3 => absurd c_3 (nI_ne9 (by omega))) (fun c_3 => ?_)
  refine wa_aload_n dX10_turn_6 rfl 0 rfl ?_
  refine wa_iload_n dX10_turn_7 rfl 1 rfl ?_
  refine wa_cVi (x_isStone C w h hX hW (nI k)) vX10_isStone iX10_turn_8 (rfl) rfl rfl rfl (Nat.le_of_ble_eq_true rfl) ⟨by decide, by decide⟩ ?_
  refine wa_eqi (y := (1)) (by rw [wIn_nI (by omega), decide_eq_true hk]; rfl) ?_
  refine wa_if_ne 16 dX10_turn_11 (by decide) (fun c_11 => ?_) (fun c_11 => absurd c_11 (by decide))
  refine wa_iload_n dX10_turn_16 rfl 1 rfl ?_
  refine wa_bipush (-9) dX10_turn_17 (by decide) ?_
  refine wa_icmp_eq 36 dX10_turn_19 (by decide) (fun c_19 => absurd c_19 (nI_ne9 (by omega))) (fun c_19 => ?_)
  refine wa_aload_n dX10_turn_22 rfl 0 rfl ?_
  refine wa_iload_n dX10_turn_23 rfl 1 rfl ?_
  refine wa_cVi (x_isFixed C w h hX hW k hk) vX10_isFixed iX10_turn_24 (rfl) rfl rfl rfl (Nat.le_of_ble_eq_true rfl) ⟨by decide, by decide⟩ ?_
  refine wa_eqi (y := (1)) (by rw [hf]; rfl) ?_
  refine wa_if_eq 36 dX10_turn_27 (by decide) (fun c_27 => absurd c_27 (by decide)) (fun c_27 => ?_)
  refine wa_aload_n dX10_turn_30 rfl 0 rfl ?_
  refine wa_iconst (3) dX10_turn_31 (by decide) ?_
  refine wa_cVi (x_meets 3 (by decide) (by decide)) vX10_meets iX10_turn_32 (rfl) rfl rfl rfl (Nat.le_of_ble_eq_true rfl) ⟨by decide, by decide⟩ ?_
  exact wa_iret dX10_turn_35 rfl ⟨congrArg (fun z => some (Value.int z)) (rfl), rfl⟩

theorem x_turn_sp {G : wm_G} {M : wm_M} (C : wm_M) (w h : Nat) (hX : xStn C M w h) (hW : TW C w h) (s yr : Nat) (hN : xNow M (w * h) s yr) (k : Nat) (hk : k < w * h) (hf : sFix (C.1 18 k) = false) (hy : yr = 999) : MD G t_X10_turn [wm_r G (96), .int (nI (k))] (M) (some (.int (-6))) (M) := by
  obtain ⟨x10, x11, x12, x103, x104, x105, x106⟩ := id hX
  have hn6 := TW_n hW
  have hw3 := hW.2.2.1
  have hh2 := hW.2.2.2
  refine wm_met (by decide) (Nat.le_of_ble_eq_true rfl) ?_
  show WA G t_X10_turn (fun v_ N_ => v_ = some (.int (-6)) ∧ N_ = M) 0 [(0, wm_r G (96)), (1, .int (nI (k)))] [] (M)
  refine wa_iload_n dX10_turn_0 rfl 1 rfl ?_
  refine wa_bipush (-9) dX10_turn_1 (by decide) ?_
  refine wa_icmp_eq 16 dX10_turn_3 (by decide) (fun c_3 => absurd c_3 (nI_ne9 (by omega))) (fun c_3 => ?_)
  refine wa_aload_n dX10_turn_6 rfl 0 rfl ?_
  refine wa_iload_n dX10_turn_7 rfl 1 rfl ?_
  refine wa_cVi (x_isStone C w h hX hW (nI k)) vX10_isStone iX10_turn_8 (rfl) rfl rfl rfl (Nat.le_of_ble_eq_true rfl) ⟨by decide, by decide⟩ ?_
  refine wa_eqi (y := (1)) (by rw [wIn_nI (by omega), decide_eq_true hk]; rfl) ?_
  refine wa_if_ne 16 dX10_turn_11 (by decide) (fun c_11 => ?_) (fun c_11 => absurd c_11 (by decide))
  refine wa_iload_n dX10_turn_16 rfl 1 rfl ?_
  refine wa_bipush (-9) dX10_turn_17 (by decide) ?_
  refine wa_icmp_eq 36 dX10_turn_19 (by decide) (fun c_19 => absurd c_19 (nI_ne9 (by omega))) (fun c_19 => ?_)
  refine wa_aload_n dX10_turn_22 rfl 0 rfl ?_
  refine wa_iload_n dX10_turn_23 rfl 1 rfl ?_
  refine wa_cVi (x_isFixed C w h hX hW k hk) vX10_isFixed iX10_turn_24 (rfl) rfl rfl rfl (Nat.le_of_ble_eq_true rfl) ⟨by decide, by decide⟩ ?_
  refine wa_eqi (y := (0)) (by rw [hf]; rfl) ?_
  refine wa_if_eq 36 dX10_turn_27 (by decide) (fun c_27 => ?_) (fun c_27 => absurd c_27 (by decide))
  refine wa_aload_n dX10_turn_36 rfl 0 rfl ?_
  refine wa_geti gX10_turn_37 (rfl) rfl ?_
  refine wa_eqi (y := (nI (yr))) (hN.2) ?_
  refine wa_sipush (999) dX10_turn_40 (by decide) ?_
  refine wa_icmp_neN (a := yr) (b := 999) 49 dX10_turn_43 (by decide) (by omega) (by omega) (fun c_43 => absurd hy c_43) (fun c_43 => ?_)
  refine wa_bipush (-6) dX10_turn_46 (by decide) ?_
  exact wa_iret dX10_turn_48 rfl ⟨congrArg (fun z => some (Value.int z)) (rfl), rfl⟩

theorem x_turn9_sp {G : wm_G} {M : wm_M} (C : wm_M) (w h : Nat) (hX : xStn C M w h) (hW : TW C w h) (s yr : Nat) (hN : xNow M (w * h) s yr) (hy : yr = 999) : MD G t_X10_turn [wm_r G (96), .int (-9)] (M) (some (.int (-6))) (M) := by
  obtain ⟨x10, x11, x12, x103, x104, x105, x106⟩ := id hX
  have hn6 := TW_n hW
  have hw3 := hW.2.2.1
  have hh2 := hW.2.2.2
  refine wm_met (by decide) (Nat.le_of_ble_eq_true rfl) ?_
  show WA G t_X10_turn (fun v_ N_ => v_ = some (.int (-6)) ∧ N_ = M) 0 [(0, wm_r G (96)), (1, .int (-9))] [] (M)
  refine wa_iload_n dX10_turn_0 rfl 1 rfl ?_
  refine wa_bipush (-9) dX10_turn_1 (by decide) ?_
  refine wa_icmp_eq 16 dX10_turn_3 (by decide) (fun c_3 => ?_) (fun c_3 => absurd c_3 (by decide))
  refine wa_iload_n dX10_turn_16 rfl 1 rfl ?_
  refine wa_bipush (-9) dX10_turn_17 (by decide) ?_
  refine wa_icmp_eq 36 dX10_turn_19 (by decide) (fun c_19 => ?_) (fun c_19 => absurd c_19 (by decide))
  refine wa_aload_n dX10_turn_36 rfl 0 rfl ?_
  refine wa_geti gX10_turn_37 (rfl) rfl ?_
  refine wa_eqi (y := (nI (yr))) (hN.2) ?_
  refine wa_sipush (999) dX10_turn_40 (by decide) ?_
  refine wa_icmp_neN (a := yr) (b := 999) 49 dX10_turn_43 (by decide) (by omega) (by omega) (fun c_43 => absurd hy c_43) (fun c_43 => ?_)
  refine wa_bipush (-6) dX10_turn_46 (by decide) ?_
  exact wa_iret dX10_turn_48 rfl ⟨congrArg (fun z => some (Value.int z)) (rfl), rfl⟩

theorem x_turn_ok {G : wm_G} {M : wm_M} (C : wm_M) (w h : Nat) (hX : xStn C M w h) (hW : TW C w h) (s yr : Nat) (hN : xNow M (w * h) s yr) (k : Nat) (hk : k < w * h) (hf : sFix (C.1 18 k) = false) (hy : yr < 999) : MA G t_X10_turn [wm_r G (96), .int (nI (k))] (M) (fun v N => v = some (.int (nI (yr + 1))) ∧ FrT M N ∧ xNow N (w * h) (sMv s k (sStep (C.1 18 k))) (yr + 1)) := by
  obtain ⟨x10, x11, x12, x103, x104, x105, x106⟩ := id hX
  have hn6 := TW_n hW
  have hw3 := hW.2.2.1
  have hh2 := hW.2.2.2
  refine wm_met (by decide) (Nat.le_of_ble_eq_true rfl) ?_
  show WA G t_X10_turn (fun v N => v = some (.int (nI (yr + 1))) ∧ FrT M N ∧ xNow N (w * h) (sMv s k (sStep (C.1 18 k))) (yr + 1)) 0 [(0, wm_r G (96)), (1, .int (nI (k)))] [] (M)
  refine wa_iload_n dX10_turn_0 rfl 1 rfl ?_
  refine wa_bipush (-9) dX10_turn_1 (by decide) ?_
  refine wa_icmp_eq 16 dX10_turn_3 (by decide) (fun c_3 => absurd c_3 (nI_ne9 (by omega))) (fun c_3 => ?_)
  refine wa_aload_n dX10_turn_6 rfl 0 rfl ?_
  refine wa_iload_n dX10_turn_7 rfl 1 rfl ?_
  refine wa_cVi (x_isStone C w h hX hW (nI k)) vX10_isStone iX10_turn_8 (rfl) rfl rfl rfl (Nat.le_of_ble_eq_true rfl) ⟨by decide, by decide⟩ ?_
  refine wa_eqi (y := (1)) (by rw [wIn_nI (by omega), decide_eq_true hk]; rfl) ?_
  refine wa_if_ne 16 dX10_turn_11 (by decide) (fun c_11 => ?_) (fun c_11 => absurd c_11 (by decide))
  refine wa_iload_n dX10_turn_16 rfl 1 rfl ?_
  refine wa_bipush (-9) dX10_turn_17 (by decide) ?_
  refine wa_icmp_eq 36 dX10_turn_19 (by decide) (fun c_19 => absurd c_19 (nI_ne9 (by omega))) (fun c_19 => ?_)
  refine wa_aload_n dX10_turn_22 rfl 0 rfl ?_
  refine wa_iload_n dX10_turn_23 rfl 1 rfl ?_
  refine wa_cVi (x_isFixed C w h hX hW k hk) vX10_isFixed iX10_turn_24 (rfl) rfl rfl rfl (Nat.le_of_ble_eq_true rfl) ⟨by decide, by decide⟩ ?_
  refine wa_eqi (y := (0)) (by rw [hf]; rfl) ?_
  refine wa_if_eq 36 dX10_turn_27 (by decide) (fun c_27 => ?_) (fun c_27 => absurd c_27 (by decide))
  refine wa_aload_n dX10_turn_36 rfl 0 rfl ?_
  refine wa_geti gX10_turn_37 (rfl) rfl ?_
  refine wa_eqi (y := (nI (yr))) (hN.2) ?_
  refine wa_sipush (999) dX10_turn_40 (by decide) ?_
  refine wa_icmp_neN (a := yr) (b := 999) 49 dX10_turn_43 (by decide) (by omega) (by omega) (fun c_43 => ?_) (fun c_43 => absurd c_43 (by omega))
  refine wa_aload_n dX10_turn_49 rfl 0 rfl ?_
  refine wa_iload_n dX10_turn_50 rfl 1 rfl ?_
  refine wa_callV (x_turnsk C w h hX hW s yr hN k hk hf) vX10_turns iX10_turn_51 (rfl) rfl rfl rfl (Nat.le_of_ble_eq_true rfl) ⟨by decide, by decide⟩ (fun v_ N h_ => ?_)
  obtain ⟨rfl, hF, -, hN2⟩ := h_
  show WA G t_X10_turn (fun v N => v = some (.int (nI (yr + 1))) ∧ FrT M N ∧ xNow N (w * h) (sMv s k (sStep (C.1 18 k))) (yr + 1)) 54 [(0, wm_r G (96)), (1, .int (nI (k)))] [] (N)
  refine wa_aload_n dX10_turn_54 rfl 0 rfl ?_
  refine wa_geti gX10_turn_55 (rfl) rfl ?_
  refine wa_eqi (y := (nI (yr + 1))) (hN2.2) ?_
  refine wa_iret dX10_turn_58 rfl ?_
  exact ⟨rfl, hF, hN2⟩

theorem x_turn9_ok {G : wm_G} {M : wm_M} (C : wm_M) (w h : Nat) (hX : xStn C M w h) (hW : TW C w h) (s yr : Nat) (hN : xNow M (w * h) s yr) (hy : yr < 999) : MA G t_X10_turn [wm_r G (96), .int (-9)] (M) (fun v N => v = some (.int (nI (yr + 1))) ∧ FrT M N ∧ xNow N (w * h) (s) (yr + 1)) := by
  obtain ⟨x10, x11, x12, x103, x104, x105, x106⟩ := id hX
  have hn6 := TW_n hW
  have hw3 := hW.2.2.1
  have hh2 := hW.2.2.2
  refine wm_met (by decide) (Nat.le_of_ble_eq_true rfl) ?_
  show WA G t_X10_turn (fun v N => v = some (.int (nI (yr + 1))) ∧ FrT M N ∧ xNow N (w * h) (s) (yr + 1)) 0 [(0, wm_r G (96)), (1, .int (-9))] [] (M)
  refine wa_iload_n dX10_turn_0 rfl 1 rfl ?_
  refine wa_bipush (-9) dX10_turn_1 (by decide) ?_
  refine wa_icmp_eq 16 dX10_turn_3 (by decide) (fun c_3 => ?_) (fun c_3 => absurd c_3 (by decide))
  refine wa_iload_n dX10_turn_16 rfl 1 rfl ?_
  refine wa_bipush (-9) dX10_turn_17 (by decide) ?_
  refine wa_icmp_eq 36 dX10_turn_19 (by decide) (fun c_19 => ?_) (fun c_19 => absurd c_19 (by decide))
  refine wa_aload_n dX10_turn_36 rfl 0 rfl ?_
  refine wa_geti gX10_turn_37 (rfl) rfl ?_
  refine wa_eqi (y := (nI (yr))) (hN.2) ?_
  refine wa_sipush (999) dX10_turn_40 (by decide) ?_
  refine wa_icmp_neN (a := yr) (b := 999) 49 dX10_turn_43 (by decide) (by omega) (by omega) (fun c_43 => ?_) (fun c_43 => absurd c_43 (by omega))
  refine wa_aload_n dX10_turn_49 rfl 0 rfl ?_
  refine wa_iload_n dX10_turn_50 rfl 1 rfl ?_
  refine wa_callV (x_turns9 C w h hX hW s yr hN) vX10_turns iX10_turn_51 (rfl) rfl rfl rfl (Nat.le_of_ble_eq_true rfl) ⟨by decide, by decide⟩ (fun v_ N h_ => ?_)
  obtain ⟨rfl, hF, -, hN2⟩ := h_
  show WA G t_X10_turn (fun v N => v = some (.int (nI (yr + 1))) ∧ FrT M N ∧ xNow N (w * h) (s) (yr + 1)) 54 [(0, wm_r G (96)), (1, .int (-9))] [] (N)
  refine wa_aload_n dX10_turn_54 rfl 0 rfl ?_
  refine wa_geti gX10_turn_55 (rfl) rfl ?_
  refine wa_eqi (y := (nI (yr + 1))) (hN2.2) ?_
  refine wa_iret dX10_turn_58 rfl ?_
  exact ⟨rfl, hF, hN2⟩

theorem x_stateNow {G : wm_G} {M : wm_M} (n s : Nat) (hn : n ≤ 6) (h12 : M.1 96 12 = nI n) (hQ : ∀ k, k < n → M.1 107 k = nI (sQ s k)) (hs : s < 4 ^ n) : MD G t_X10_stateNow [wm_r G (96)] (M) (some (.int (nI (s)))) (M) := by
  refine wm_met (by decide) (Nat.le_of_ble_eq_true rfl) ?_
  show WA G t_X10_stateNow (fun v_ N_ => v_ = some (.int (nI (s))) ∧ N_ = M) 0 [(0, wm_r G (96))] [] (M)
  refine wa_iconst (0) dX10_stateNow_0 (by decide) ?_
  refine wa_eqi (y := (nI (s % 4 ^ 0))) (by rw [Nat.pow_zero, Nat.mod_one]; rfl) ?_
  refine wa_istore_n [(1, .int (nI (s % 4 ^ 0))), (0, wm_r G (96))] dX10_stateNow_1 rfl (by decide) rfl ?_
  refine wa_iconst (0) dX10_stateNow_2 (by decide) ?_
  refine wa_istore_n [(2, .int (0)), (1, .int (nI (s % 4 ^ 0))), (0, wm_r G (96))] dX10_stateNow_3 rfl (by decide) rfl ?_
  have L_4 : ∀ (n_ : Nat) (k : Nat), (n - k) < n_ → (k ≤ n) → WA G t_X10_stateNow (fun v_ N_ => v_ = some (.int (nI (s))) ∧ N_ = M) 4 [(2, .int (nI (k))), (1, .int (nI (s % 4 ^ k))), (0, wm_r G (96))] [] (M) := by
    intro n_
    induction n_ with
    | zero => intro k h_; exact absurd h_ (Nat.not_lt_zero _)
    | succ n_ ih_4 =>
      intro k h_ hk
      refine wa_iload_n dX10_stateNow_4 rfl 0 rfl ?_
      refine wa_aload_n dX10_stateNow_5 rfl 2 rfl ?_
      refine wa_geti gX10_stateNow_6 (rfl) rfl ?_
      refine wa_eqi (y := (nI (n))) (h12) ?_
      refine wa_icmp_geN (a := k) (b := n) 31 dX10_stateNow_9 (by decide) (by omega) (by omega) (fun c_9 => ?_) (fun c_9 => ?_)
      · refine wa_iload_n dX10_stateNow_31 rfl 1 rfl ?_
        exact wa_iret dX10_stateNow_32 rfl ⟨congrArg (fun z => some (Value.int z)) (by rw [show k = n by omega, Nat.mod_eq_of_lt hs]), rfl⟩
      · refine wa_iload_n dX10_stateNow_12 rfl 1 rfl ?_
        refine wa_aload_n dX10_stateNow_13 rfl 2 rfl ?_
        refine wa_getr gX10_stateNow_14 (rfl) rfl ?_
        refine wa_iload_n dX10_stateNow_17 rfl 0 rfl ?_
        refine wa_ialdN (e := k) dX10_stateNow_18 (rfl) (by omega) (by decide) ?_
        refine wa_eqi (y := (nI (sQ s k))) (hQ k (by omega)) ?_
        refine wa_iconst (2) dX10_stateNow_19 (by decide) ?_
        refine wa_iload_n dX10_stateNow_20 rfl 0 rfl ?_
        refine wa_imulN (a := 2) (b := k) dX10_stateNow_21 ?_
        refine wa_ishl dX10_stateNow_22 ?_
        refine wa_eqi (y := (nI (sQ s k * 2 ^ (2 * k)))) (nI_shl (by omega) (by have := sQ_lt s k; rw [p4]; have : 4 ^ k ≤ 4 ^ 6 := Nat.pow_le_pow_right (by decide) (by omega); have : sQ s k * 4 ^ k ≤ 3 * 4 ^ 6 := Nat.mul_le_mul (by omega) this; omega)) ?_
        refine wa_iaddN (a := s % 4 ^ k) (b := sQ s k * 2 ^ (2 * k)) dX10_stateNow_23 ?_
        refine wa_eqi (y := (nI (s % 4 ^ (k + 1)))) (by rw [p4, mod4]) ?_
        refine wa_istore_n [(1, .int (nI (s % 4 ^ (k + 1)))), (2, .int (nI (k))), (0, wm_r G (96))] dX10_stateNow_24 rfl (by decide) rfl ?_
        refine wa_iinc ((nI (k + 1))) [(2, .int (nI (k + 1))), (1, .int (nI (s % 4 ^ (k + 1)))), (0, wm_r G (96))] dX10_stateNow_25 1 rfl (nI_inc _) (by decide) rfl ?_
        refine wa_goto 4 dX10_stateNow_28 (by decide) ?_
        exact ih_4 (k + 1) (by omega) (by omega)
  exact L_4 _ 0 (Nat.lt_succ_self _) (Nat.zero_le _)

theorem x_keep_bad {G : wm_G} {M : wm_M} (k : Int32) (hk : wIn k 3 = false) : MD G t_X10_keep [wm_r G (96), .int (k)] (M) (some (.int (-1))) (M) := by
  refine wm_met (by decide) (Nat.le_of_ble_eq_true rfl) ?_
  show WA G t_X10_keep (fun v_ N_ => v_ = some (.int (-1)) ∧ N_ = M) 0 [(0, wm_r G (96)), (1, .int (k))] [] (M)
  refine wa_iload_n dX10_keep_0 rfl 1 rfl ?_
  refine wa_iconst (0) dX10_keep_1 (by decide) ?_
  refine wa_iconst (2) dX10_keep_2 (by decide) ?_
  refine wa_cSi (x_in k 0 2) vX10_in iX10_keep_3 rfl rfl (Nat.le_of_ble_eq_true rfl) ⟨by decide, by decide⟩ ?_
  refine wa_eqi (y := (0)) (by rw [show inC k 0 2 = wIn k 3 from inC_w (m := 2) (by decide) _, hk]; rfl) ?_
  refine wa_if_ne 11 dX10_keep_6 (by decide) (fun c_6 => absurd c_6 (by decide)) (fun c_6 => ?_)
  refine wa_iconst (-1) dX10_keep_9 (by decide) ?_
  exact wa_iret dX10_keep_10 rfl ⟨congrArg (fun z => some (Value.int z)) (rfl), rfl⟩

theorem x_keep_st {G : wm_G} {M : wm_M} (k : Nat) (hk : k < 3) (h12 : M.1 96 12 = nI 0) : MD G t_X10_keep [wm_r G (96), .int (nI (k))] (M) (some (.int (-4))) (M) := by
  refine wm_met (by decide) (Nat.le_of_ble_eq_true rfl) ?_
  show WA G t_X10_keep (fun v_ N_ => v_ = some (.int (-4)) ∧ N_ = M) 0 [(0, wm_r G (96)), (1, .int (nI (k)))] [] (M)
  refine wa_iload_n dX10_keep_0 rfl 1 rfl ?_
  refine wa_iconst (0) dX10_keep_1 (by decide) ?_
  refine wa_iconst (2) dX10_keep_2 (by decide) ?_
  refine wa_cSi (x_in (nI k) 0 2) vX10_in iX10_keep_3 rfl rfl (Nat.le_of_ble_eq_true rfl) ⟨by decide, by decide⟩ ?_
  refine wa_eqi (y := (1)) (by rw [show inC (nI k) 0 2 = wIn (nI k) 3 from inC_w (m := 2) (by decide) _, wIn_nI (by omega), decide_eq_true hk]; rfl) ?_
  refine wa_if_ne 11 dX10_keep_6 (by decide) (fun c_6 => ?_) (fun c_6 => absurd c_6 (by decide))
  refine wa_aload_n dX10_keep_11 rfl 0 rfl ?_
  refine wa_geti gX10_keep_12 (rfl) rfl ?_
  refine wa_eqi (y := (0)) (h12) ?_
  refine wa_if_ne 21 dX10_keep_15 (by decide) (fun c_15 => absurd c_15 (by decide)) (fun c_15 => ?_)
  refine wa_bipush (-4) dX10_keep_18 (by decide) ?_
  exact wa_iret dX10_keep_20 rfl ⟨congrArg (fun z => some (Value.int z)) (rfl), rfl⟩

theorem x_keep_ok {G : wm_G} {M : wm_M} (n s yr k : Nat) (hk : k < 3) (hn : n ≤ 6) (hn0 : ¬ n = 0) (h12 : M.1 96 12 = nI n) (hN : xNow M n s yr) (hs : s < 4 ^ n) : MD G t_X10_keep [wm_r G (96), .int (nI (k))] (M) (some (.int (nI (yr)))) (wI (wI M 112 k (nI s)) 113 k (nI yr)) := by
  refine wm_met (by decide) (Nat.le_of_ble_eq_true rfl) ?_
  show WA G t_X10_keep (fun v_ N_ => v_ = some (.int (nI (yr))) ∧ N_ = wI (wI M 112 k (nI s)) 113 k (nI yr)) 0 [(0, wm_r G (96)), (1, .int (nI (k)))] [] (M)
  refine wa_iload_n dX10_keep_0 rfl 1 rfl ?_
  refine wa_iconst (0) dX10_keep_1 (by decide) ?_
  refine wa_iconst (2) dX10_keep_2 (by decide) ?_
  refine wa_cSi (x_in (nI k) 0 2) vX10_in iX10_keep_3 rfl rfl (Nat.le_of_ble_eq_true rfl) ⟨by decide, by decide⟩ ?_
  refine wa_eqi (y := (1)) (by rw [show inC (nI k) 0 2 = wIn (nI k) 3 from inC_w (m := 2) (by decide) _, wIn_nI (by omega), decide_eq_true hk]; rfl) ?_
  refine wa_if_ne 11 dX10_keep_6 (by decide) (fun c_6 => ?_) (fun c_6 => absurd c_6 (by decide))
  refine wa_aload_n dX10_keep_11 rfl 0 rfl ?_
  refine wa_geti gX10_keep_12 (rfl) rfl ?_
  refine wa_eqi (y := (nI (n))) (h12) ?_
  refine wa_if_neN (a := n) 21 dX10_keep_15 (by decide) (by omega) (fun c_15 => ?_) (fun c_15 => absurd c_15 hn0)
  refine wa_aload_n dX10_keep_21 rfl 0 rfl ?_
  refine wa_getr gX10_keep_22 (rfl) rfl ?_
  refine wa_iload_n dX10_keep_25 rfl 1 rfl ?_
  refine wa_aload_n dX10_keep_26 rfl 0 rfl ?_
  refine wa_cVi (x_stateNow n s hn h12 hN.1 hs) vX10_stateNow iX10_keep_27 (rfl) rfl rfl rfl (Nat.le_of_ble_eq_true rfl) ⟨by decide, by decide⟩ ?_
  refine wa_iastN (e := k) dX10_keep_30 (rfl) (by omega) (by decide) ?_
  refine wa_aload_n dX10_keep_31 rfl 0 rfl ?_
  refine wa_getr gX10_keep_32 (rfl) rfl ?_
  refine wa_iload_n dX10_keep_35 rfl 1 rfl ?_
  refine wa_aload_n dX10_keep_36 rfl 0 rfl ?_
  refine wa_geti gX10_keep_37 (rfl) rfl ?_
  refine wa_eqi (y := (nI (yr))) (by rw [wI_c (by decide)]; exact hN.2) ?_
  refine wa_iastN (e := k) dX10_keep_40 (rfl) (by omega) (by decide) ?_
  refine wa_aload_n dX10_keep_41 rfl 0 rfl ?_
  refine wa_geti gX10_keep_42 (rfl) rfl ?_
  refine wa_eqi (y := (nI (yr))) (by rw [wI_c (by decide), wI_c (by decide)]; exact hN.2) ?_
  exact wa_iret dX10_keep_45 rfl ⟨congrArg (fun z => some (Value.int z)) (rfl), rfl⟩

theorem x_on_bad {G : wm_G} {M : wm_M} (k : Int32) (hk : wIn k 3 = false) : MD G t_X10_on [wm_r G (96), .int (k)] (M) (some (.int (-1))) (M) := by
  refine wm_met (by decide) (Nat.le_of_ble_eq_true rfl) ?_
  show WA G t_X10_on (fun v_ N_ => v_ = some (.int (-1)) ∧ N_ = M) 0 [(0, wm_r G (96)), (1, .int (k))] [] (M)
  refine wa_iload_n dX10_on_0 rfl 1 rfl ?_
  refine wa_iconst (0) dX10_on_1 (by decide) ?_
  refine wa_iconst (2) dX10_on_2 (by decide) ?_
  refine wa_cSi (x_in k 0 2) vX10_in iX10_on_3 rfl rfl (Nat.le_of_ble_eq_true rfl) ⟨by decide, by decide⟩ ?_
  refine wa_eqi (y := (0)) (by rw [show inC k 0 2 = wIn k 3 from inC_w (m := 2) (by decide) _, hk]; rfl) ?_
  refine wa_if_ne 11 dX10_on_6 (by decide) (fun c_6 => absurd c_6 (by decide)) (fun c_6 => ?_)
  refine wa_iconst (-1) dX10_on_9 (by decide) ?_
  exact wa_iret dX10_on_10 rfl ⟨congrArg (fun z => some (Value.int z)) (rfl), rfl⟩

theorem x_on_no {G : wm_G} {M : wm_M} (k : Nat) (hk : k < 3) (hz : M.1 112 k = -1) : MD G t_X10_on [wm_r G (96), .int (nI (k))] (M) (some (.int (-3))) (xNote M 1) := by
  refine wm_met (by decide) (Nat.le_of_ble_eq_true rfl) ?_
  show WA G t_X10_on (fun v_ N_ => v_ = some (.int (-3)) ∧ N_ = xNote M 1) 0 [(0, wm_r G (96)), (1, .int (nI (k)))] [] (M)
  refine wa_iload_n dX10_on_0 rfl 1 rfl ?_
  refine wa_iconst (0) dX10_on_1 (by decide) ?_
  refine wa_iconst (2) dX10_on_2 (by decide) ?_
  refine wa_cSi (x_in (nI k) 0 2) vX10_in iX10_on_3 rfl rfl (Nat.le_of_ble_eq_true rfl) ⟨by decide, by decide⟩ ?_
  refine wa_eqi (y := (1)) (by rw [show inC (nI k) 0 2 = wIn (nI k) 3 from inC_w (m := 2) (by decide) _, wIn_nI (by omega), decide_eq_true hk]; rfl) ?_
  refine wa_if_ne 11 dX10_on_6 (by decide) (fun c_6 => ?_) (fun c_6 => absurd c_6 (by decide))
  refine wa_aload_n dX10_on_11 rfl 0 rfl ?_
  refine wa_getr gX10_on_12 (rfl) rfl ?_
  refine wa_iload_n dX10_on_15 rfl 1 rfl ?_
  refine wa_ialdN (e := k) dX10_on_16 (rfl) (by omega) (by decide) ?_
  refine wa_eqi (y := (-1)) (hz) ?_
  refine wa_if_ge 26 dX10_on_17 (by decide) (fun c_17 => absurd c_17 (by decide)) (fun c_17 => ?_)
  refine wa_aload_n dX10_on_20 rfl 0 rfl ?_
  refine wa_iconst (1) dX10_on_21 (by decide) ?_
  refine wa_cVi (x_meets 1 (by decide) (by decide)) vX10_meets iX10_on_22 (rfl) rfl rfl rfl (Nat.le_of_ble_eq_true rfl) ⟨by decide, by decide⟩ ?_
  exact wa_iret dX10_on_25 rfl ⟨congrArg (fun z => some (Value.int z)) (rfl), rfl⟩

theorem x_on_ok {G : wm_G} {M : wm_M} (n k y s1 : Nat) (hk : k < 3) (hn : n ≤ 6) (h12 : M.1 96 12 = nI n) (h112 : M.1 112 k = nI s1) (h113 : M.1 113 k = nI y) (hs : s1 < 4096) : MD G t_X10_on [wm_r G (96), .int (nI (k))] (M) (some (.int (nI (y)))) (wI (wIa M 107 (wTo (fun i => nI (sQ s1 i)) (M.1 107) (n))) 96 18 (nI y)) := by
  refine wm_met (by decide) (Nat.le_of_ble_eq_true rfl) ?_
  show WA G t_X10_on (fun v_ N_ => v_ = some (.int (nI (y))) ∧ N_ = wI (wIa M 107 (wTo (fun i => nI (sQ s1 i)) (M.1 107) (n))) 96 18 (nI y)) 0 [(0, wm_r G (96)), (1, .int (nI (k)))] [] (M)
  refine wa_iload_n dX10_on_0 rfl 1 rfl ?_
  refine wa_iconst (0) dX10_on_1 (by decide) ?_
  refine wa_iconst (2) dX10_on_2 (by decide) ?_
  refine wa_cSi (x_in (nI k) 0 2) vX10_in iX10_on_3 rfl rfl (Nat.le_of_ble_eq_true rfl) ⟨by decide, by decide⟩ ?_
  refine wa_eqi (y := (1)) (by rw [show inC (nI k) 0 2 = wIn (nI k) 3 from inC_w (m := 2) (by decide) _, wIn_nI (by omega), decide_eq_true hk]; rfl) ?_
  refine wa_if_ne 11 dX10_on_6 (by decide) (fun c_6 => ?_) (fun c_6 => absurd c_6 (by decide))
  refine wa_aload_n dX10_on_11 rfl 0 rfl ?_
  refine wa_getr gX10_on_12 (rfl) rfl ?_
  refine wa_iload_n dX10_on_15 rfl 1 rfl ?_
  refine wa_ialdN (e := k) dX10_on_16 (rfl) (by omega) (by decide) ?_
  refine wa_eqi (y := (nI (s1))) (h112) ?_
  refine wa_if_geN (a := s1) 26 dX10_on_17 (by decide) (by omega) (fun c_17 => ?_) (fun c_17 => absurd c_17 (by omega))
  refine wa_iconst (0) dX10_on_26 (by decide) ?_
  refine wa_istore_n [(2, .int (0)), (0, wm_r G (96)), (1, .int (nI (k)))] dX10_on_27 rfl (by decide) rfl ?_
  have L_28 : ∀ (n_ : Nat) (i : Nat), (n - i) < n_ → (i ≤ n) → WA G t_X10_on (fun v_ N_ => v_ = some (.int (nI (y))) ∧ N_ = wI (wIa M 107 (wTo (fun i => nI (sQ s1 i)) (M.1 107) (n))) 96 18 (nI y)) 28 [(2, .int (nI (i))), (0, wm_r G (96)), (1, .int (nI (k)))] [] (wIa M 107 (wTo (fun i => nI (sQ s1 i)) (M.1 107) (i))) := by
    intro n_
    induction n_ with
    | zero => intro i h_; exact absurd h_ (Nat.not_lt_zero _)
    | succ n_ ih_28 =>
      intro i h_ hi
      refine wa_iload_n dX10_on_28 rfl 0 rfl ?_
      refine wa_aload_n dX10_on_29 rfl 1 rfl ?_
      refine wa_geti gX10_on_30 (rfl) rfl ?_
      refine wa_eqi (y := (nI (n))) (by rw [wIa_n (by decide)]; exact h12) ?_
      refine wa_icmp_geN (a := i) (b := n) 60 dX10_on_33 (by decide) (by omega) (by omega) (fun c_33 => ?_) (fun c_33 => ?_)
      · refine wa_aload_n dX10_on_60 rfl 1 rfl ?_
        refine wa_aload_n dX10_on_61 rfl 1 rfl ?_
        refine wa_getr gX10_on_62 (rfl) rfl ?_
        refine wa_iload_n dX10_on_65 rfl 2 rfl ?_
        refine wa_ialdN (e := k) dX10_on_66 (rfl) (by omega) (by decide) ?_
        refine wa_eqi (y := (nI (y))) (by rw [wIa_n (by decide)]; exact h113) ?_
        refine wa_puti gX10_on_67 (rfl) rfl ?_
        refine wa_aload_n dX10_on_70 rfl 1 rfl ?_
        refine wa_geti gX10_on_71 (rfl) rfl ?_
        refine wa_eqi (y := (nI (y))) (wI_at) ?_
        exact wa_iret dX10_on_74 rfl ⟨congrArg (fun z => some (Value.int z)) (rfl), by rw [show i = n by omega]⟩
      · refine wa_aload_n dX10_on_36 rfl 1 rfl ?_
        refine wa_getr gX10_on_37 (rfl) rfl ?_
        refine wa_iload_n dX10_on_40 rfl 0 rfl ?_
        refine wa_aload_n dX10_on_41 rfl 1 rfl ?_
        refine wa_getr gX10_on_42 (rfl) rfl ?_
        refine wa_iload_n dX10_on_45 rfl 2 rfl ?_
        refine wa_ialdN (e := k) dX10_on_46 (rfl) (by omega) (by decide) ?_
        refine wa_eqi (y := (nI (s1))) (by rw [wIa_n (by decide)]; exact h112) ?_
        refine wa_iconst (2) dX10_on_47 (by decide) ?_
        refine wa_iload_n dX10_on_48 rfl 0 rfl ?_
        refine wa_imulN (a := 2) (b := i) dX10_on_49 ?_
        refine wa_ishr dX10_on_50 ?_
        refine wa_eqi (y := (nI (s1 / 2 ^ (2 * i)))) (nI_shr (by omega) (by omega)) ?_
        refine wa_iconst (3) dX10_on_51 (by decide) ?_
        refine wa_iand dX10_on_52 ?_
        refine wa_eqi (y := (nI (sQ s1 i))) (by rw [nI_and3 (Nat.lt_of_le_of_lt (Nat.div_le_self _ _) (by omega)), p4]; rfl) ?_
        refine wa_iastN (e := i) dX10_on_53 (rfl) (by omega) (by decide) ?_
        refine wa_eqm (M' := wIa M 107 (wTo (fun i => nI (sQ s1 i)) (M.1 107) (i + 1))) (wI_wIa.trans (congrArg (wIa M 107) (wTo_s (f := fun i => nI (sQ s1 i)) rfl))) ?_
        refine wa_iinc ((nI (i + 1))) [(2, .int (nI (i + 1))), (0, wm_r G (96)), (1, .int (nI (k)))] dX10_on_54 0 rfl (nI_inc _) (by decide) rfl ?_
        refine wa_goto 28 dX10_on_57 (by decide) ?_
        exact ih_28 (i + 1) (by omega) (by omega)
  refine wa_eqm (M' := wIa M 107 (wTo (fun i => nI (sQ s1 i)) (M.1 107) (0))) (wTo_start rfl) ?_
  exact L_28 _ 0 (Nat.lt_succ_self _) (Nat.zero_le _)

theorem x_state {G : wm_G} {M : wm_M} (n s yr : Nat) (hn : n ≤ 6) (h12 : M.1 96 12 = nI n) (hN : xNow M n s yr) (hs : s < 4 ^ n) : MD G t_X10_state [wm_r G (96)] (M) (some (.int (nI (s)))) (xTell M (nI yr)) := by
  refine wm_met (by decide) (Nat.le_of_ble_eq_true rfl) ?_
  show WA G t_X10_state (fun v_ N_ => v_ = some (.int (nI (s))) ∧ N_ = xTell M (nI yr)) 0 [(0, wm_r G (96))] [] (M)
  refine wa_aload_n dX10_state_0 rfl 0 rfl ?_
  refine wa_aload_n dX10_state_1 rfl 0 rfl ?_
  refine wa_geti gX10_state_2 (rfl) rfl ?_
  refine wa_eqi (y := (nI (yr))) (hN.2) ?_
  refine wa_aload_n dX10_state_5 rfl 0 rfl ?_
  refine wa_cVi (x_stateNow n s hn h12 hN.1 hs) vX10_stateNow iX10_state_6 (rfl) rfl rfl rfl (Nat.le_of_ble_eq_true rfl) ⟨by decide, by decide⟩ ?_
  refine wa_cVi (x_tells (nI yr) (nI s)) vX10_tells iX10_state_9 (rfl) rfl rfl rfl (Nat.le_of_ble_eq_true rfl) ⟨by decide, by decide⟩ ?_
  exact wa_iret dX10_state_12 rfl ⟨congrArg (fun z => some (Value.int z)) (rfl), rfl⟩

theorem x_stateMany {G : wm_G} {M : wm_M} (n : Nat) (hn : n ≤ 6) (h12 : M.1 96 12 = nI n) : MD G t_X10_stateMany [wm_r G (96)] (M) (some (.int (nI (4 ^ n)))) (M) := by
  refine wm_met (by decide) (Nat.le_of_ble_eq_true rfl) ?_
  show WA G t_X10_stateMany (fun v_ N_ => v_ = some (.int (nI (4 ^ n))) ∧ N_ = M) 0 [(0, wm_r G (96))] [] (M)
  refine wa_iconst (1) dX10_stateMany_0 (by decide) ?_
  refine wa_iconst (2) dX10_stateMany_1 (by decide) ?_
  refine wa_aload_n dX10_stateMany_2 rfl 0 rfl ?_
  refine wa_geti gX10_stateMany_3 (rfl) rfl ?_
  refine wa_eqi (y := (nI (n))) (h12) ?_
  refine wa_imulN (a := 2) (b := n) dX10_stateMany_6 ?_
  refine wa_ishl dX10_stateMany_7 ?_
  refine wa_eqi (y := (nI (4 ^ n))) (by rw [nI_pow _ (by omega), p4]) ?_
  exact wa_iret dX10_stateMany_8 rfl ⟨congrArg (fun z => some (Value.int z)) (rfl), rfl⟩

theorem x_turnsBy {G : wm_G} {M : wm_M} (C : wm_M) (w h : Nat) (hX : xStn C M w h) (hW : TW C w h) (k : Nat) (hk : k < w * h) (a b : Nat) (ha : a < 4) (hb : b < 4) : MD G t_X10_turnsBy [wm_r G (96), .int (nI (k)), .int (nI (a)), .int (nI (b))] (M) (some (.int (tbI (C.1 18 k) a b))) (M) := by
  obtain ⟨x10, x11, x12, x103, x104, x105, x106⟩ := id hX
  have hn6 := TW_n hW
  have hw3 := hW.2.2.1
  have hh2 := hW.2.2.2
  refine wm_met (by decide) (Nat.le_of_ble_eq_true rfl) ?_
  show WA G t_X10_turnsBy (fun v_ N_ => v_ = some (.int (tbI (C.1 18 k) a b)) ∧ N_ = M) 0 [(0, wm_r G (96)), (1, .int (nI (k))), (2, .int (nI (a))), (3, .int (nI (b)))] [] (M)
  refine wa_iload_n dX10_turnsBy_0 rfl 3 rfl ?_
  refine wa_iload_n dX10_turnsBy_1 rfl 2 rfl ?_
  refine wa_isub dX10_turnsBy_2 ?_
  refine wa_iconst (4) dX10_turnsBy_3 (by decide) ?_
  refine wa_iadd dX10_turnsBy_4 ?_
  refine wa_eqi (y := (nI (b + 4 - a))) (sub4 a ha b hb) ?_
  refine wa_iconst (4) dX10_turnsBy_5 (by decide) ?_
  refine wa_iremN (a := b + 4 - a) (b := 4) dX10_turnsBy_6 (by omega) (by omega) (by omega) ?_
  refine wa_istore [(4, .int (nI ((b + 4 - a) % (4)))), (0, wm_r G (96)), (1, .int (nI (k))), (2, .int (nI (a))), (3, .int (nI (b)))] dX10_turnsBy_7 (by decide) rfl ?_
  refine wa_aload_n dX10_turnsBy_9 rfl 1 rfl ?_
  refine wa_iload_n dX10_turnsBy_10 rfl 2 rfl ?_
  refine wa_cVi (x_isFixed C w h hX hW k hk) vX10_isFixed iX10_turnsBy_11 (rfl) rfl rfl rfl (Nat.le_of_ble_eq_true rfl) ⟨by decide, by decide⟩ ?_
  refine wa_if_eqB 28 dX10_turnsBy_14 (by decide) (fun (c_14 : (sFix (C.1 18 k)) = false) => ?_) (fun (c_14 : (sFix (C.1 18 k)) = true) => ?_)
  · refine wa_aload_n dX10_turnsBy_28 rfl 1 rfl ?_
    refine wa_getr gX10_turnsBy_29 (rfl) rfl ?_
    refine wa_iload_n dX10_turnsBy_32 rfl 2 rfl ?_
    refine wa_ialdN (e := k) dX10_turnsBy_33 (rfl) (by omega) (by decide) ?_
    refine wa_eqi (y := (C.1 18 (k))) (x103 _ (by omega)) ?_
    refine wa_iconst (3) dX10_turnsBy_34 (by decide) ?_
    refine wa_icmp_ne 56 dX10_turnsBy_35 (by decide) (fun c_35 => ?_) (fun c_35 => ?_)
    · refine wa_iload dX10_turnsBy_56 0 rfl ?_
      exact wa_iret dX10_turnsBy_58 rfl ⟨congrArg (fun z => some (Value.int z)) (by unfold tbI; rw [if_neg (show ¬ sFix (C.1 18 k) = true by rw [c_14]; decide)]; first | (rw [if_neg c_35]; done) | (rw [if_pos c_35, if_neg c_42]; done) | (rw [if_pos c_35, if_pos c_42]; done)), rfl⟩
    · refine wa_iload dX10_turnsBy_38 0 rfl ?_
      refine wa_iconst (2) dX10_turnsBy_40 (by decide) ?_
      refine wa_iremN (a := (b + 4 - a) % (4)) (b := 2) dX10_turnsBy_41 (by omega) (by omega) (by omega) ?_
      refine wa_if_neN (a := ((b + 4 - a) % (4)) % (2)) 52 dX10_turnsBy_42 (by decide) (by omega) (fun c_42 => ?_) (fun c_42 => ?_)
      · refine wa_iconst (-1) dX10_turnsBy_52 (by decide) ?_
        refine wa_goto 58 dX10_turnsBy_53 (by decide) ?_
        exact wa_iret dX10_turnsBy_58 rfl ⟨congrArg (fun z => some (Value.int z)) (by unfold tbI; rw [if_neg (show ¬ sFix (C.1 18 k) = true by rw [c_14]; decide)]; first | (rw [if_neg c_35]; done) | (rw [if_pos c_35, if_neg c_42]; done) | (rw [if_pos c_35, if_pos c_42]; done)), rfl⟩
      · refine wa_iload dX10_turnsBy_45 0 rfl ?_
        refine wa_iconst (2) dX10_turnsBy_47 (by decide) ?_
        refine wa_idivN (a := (b + 4 - a) % (4)) (b := 2) dX10_turnsBy_48 (by omega) (by omega) (by omega) ?_
        refine wa_goto 58 dX10_turnsBy_49 (by decide) ?_
        exact wa_iret dX10_turnsBy_58 rfl ⟨congrArg (fun z => some (Value.int z)) (by unfold tbI; rw [if_neg (show ¬ sFix (C.1 18 k) = true by rw [c_14]; decide)]; first | (rw [if_neg c_35]; done) | (rw [if_pos c_35, if_neg c_42]; done) | (rw [if_pos c_35, if_pos c_42]; done)), rfl⟩
  · refine wa_iload dX10_turnsBy_17 0 rfl ?_
    refine wa_if_neN (a := (b + 4 - a) % (4)) 26 dX10_turnsBy_19 (by decide) (by omega) (fun c_19 => ?_) (fun c_19 => ?_)
    · refine wa_iconst (-1) dX10_turnsBy_26 (by decide) ?_
      exact wa_iret dX10_turnsBy_27 rfl ⟨congrArg (fun z => some (Value.int z)) (by unfold tbI; first | (rw [if_pos c_14, if_neg c_19]; done) | (rw [if_pos c_14, if_pos c_19]; done)), rfl⟩
    · refine wa_iconst (0) dX10_turnsBy_22 (by decide) ?_
      refine wa_goto 27 dX10_turnsBy_23 (by decide) ?_
      exact wa_iret dX10_turnsBy_27 rfl ⟨congrArg (fun z => some (Value.int z)) (by unfold tbI; first | (rw [if_pos c_14, if_neg c_19]; done) | (rw [if_pos c_14, if_pos c_19]; done)), rfl⟩
