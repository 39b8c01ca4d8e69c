theorem m_pattern {G : wm_G} {M : wm_M} (a : Nat) (ha : wm_sh a = .inr (0, 6, 0, 0)) (qb : Nat → Nat) (hqb : ∀ j, j < 6 → M.1 a j = nI (qb j) ∧ qb j < 16) (f : Nat) (hf : f + 3 ≤ 6) : MD G t_X3_pattern [wm_r G (a), .int (nI (f))] (M) (some (.long (patL qb f 3))) (M) := by
  refine wm_met (by decide) (Nat.le_of_ble_eq_true rfl) ?_
  show WA G t_X3_pattern (fun v_ N_ => v_ = some (.long (patL qb f 3)) ∧ N_ = M) 0 [(0, wm_r G (a)), (1, .int (nI (f)))] [] (M)
  refine wa_ldc2 (-1) dX3_pattern_0 kX3_pattern_0 ?_
  refine wa_lstore_n [(2, .long (-1)), (0, wm_r G (a)), (1, .int (nI (f)))] dX3_pattern_3 rfl (by decide) rfl ?_
  refine wa_iconst (0) dX3_pattern_4 (by decide) ?_
  refine wa_istore [(4, .int (0)), (2, .long (-1)), (0, wm_r G (a)), (1, .int (nI (f)))] dX3_pattern_5 (by decide) rfl ?_
  have L_7 : ∀ (n_ : Nat) (j : Nat), (3 - j) < n_ → (j ≤ 3) → WA G t_X3_pattern (fun v_ N_ => v_ = some (.long (patL qb f 3)) ∧ N_ = M) 7 [(4, .int (nI (j))), (2, .long (patL qb f j)), (0, wm_r G (a)), (1, .int (nI (f)))] [] (M) := by
    intro n_
    induction n_ with
    | zero => intro j h_; exact absurd h_ (Nat.not_lt_zero _)
    | succ n_ ih_7 =>
      intro j h_ hj
      refine wa_iload dX3_pattern_7 0 rfl ?_
      refine wa_iconst (3) dX3_pattern_9 (by decide) ?_
      refine wa_icmp_geN (a := j) (b := 3) 85 dX3_pattern_10 (by decide) (by omega) (by omega) (fun c_10 => ?_) (fun c_10 => ?_)
      · refine wa_lload_n dX3_pattern_85 rfl 1 rfl ?_
        exact wa_lret dX3_pattern_86 rfl ⟨congrArg (fun z => some (Value.long z)) (by rw [show j = 3 by omega]), rfl⟩
      · refine wa_iload_n dX3_pattern_13 rfl 3 rfl ?_
        refine wa_iload dX3_pattern_14 0 rfl ?_
        refine wa_iaddN (a := f) (b := j) dX3_pattern_16 ?_
        refine wa_aload_n dX3_pattern_17 rfl 2 rfl ?_
        refine wa_alen (nI (6)) dX3_pattern_18 (ha) (by decide) rfl ?_
        refine wa_icmp_geN (a := f + j) (b := 6) 85 dX3_pattern_19 (by decide) (by omega) (by omega) (fun c_19 => absurd c_19 (by omega)) (fun c_19 => ?_)
        refine wa_lconst (0) dX3_pattern_22 (by decide) ?_
        refine wa_lstore [(5, .long (0)), (4, .int (nI (j))), (2, .long (patL qb f j)), (0, wm_r G (a)), (1, .int (nI (f)))] dX3_pattern_23 (by decide) rfl ?_
        refine wa_iconst (0) dX3_pattern_25 (by decide) ?_
        refine wa_istore [(7, .int (0)), (5, .long (0)), (4, .int (nI (j))), (2, .long (patL qb f j)), (0, wm_r G (a)), (1, .int (nI (f)))] dX3_pattern_26 (by decide) rfl ?_
        have L_28 : ∀ (n_ : Nat) (q : Nat) (on : Int64), (4 - q) < n_ → (q ≤ 4) → (on = oneL (qb (f + j)) j q) → WA G t_X3_pattern (fun v_ N_ => v_ = some (.long (patL qb f 3)) ∧ N_ = M) 28 [(7, .int (nI (q))), (5, .long (on)), (4, .int (nI (j))), (2, .long (patL qb f j)), (0, wm_r G (a)), (1, .int (nI (f)))] [] (M) := by
          intro n_
          induction n_ with
          | zero => intro q on h_; exact absurd h_ (Nat.not_lt_zero _)
          | succ n_ ih_28 =>
            intro q on h_ hq ho
            refine wa_iload dX3_pattern_28 0 rfl ?_
            refine wa_iconst (4) dX3_pattern_30 (by decide) ?_
            refine wa_icmp_geN (a := q) (b := 4) 74 dX3_pattern_31 (by decide) (by omega) (by omega) (fun c_31 => ?_) (fun c_31 => ?_)
            · refine wa_lload_n dX3_pattern_74 rfl 3 rfl ?_
              refine wa_lload dX3_pattern_75 1 rfl ?_
              refine wa_land dX3_pattern_77 ?_
              refine wa_eql (y := patL qb f (j + 1)) (by rw [ho, show q = 4 by omega]; rfl) ?_
              refine wa_lstore_n [(2, .long (patL qb f (j + 1))), (7, .int (nI (q))), (5, .long (on)), (4, .int (nI (j))), (0, wm_r G (a)), (1, .int (nI (f)))] dX3_pattern_78 rfl (by decide) rfl ?_
              refine wa_iinc ((nI (j + 1))) [(4, .int (nI (j + 1))), (2, .long (patL qb f (j + 1))), (7, .int (nI (q))), (5, .long (on)), (0, wm_r G (a)), (1, .int (nI (f)))] dX3_pattern_79 3 rfl (nI_inc _) (by decide) rfl ?_
              refine wa_goto 7 dX3_pattern_82 (by decide) ?_
              refine wa_sub [0, 1, 4, 5] rfl ?_
              exact ih_7 (j + 1) (by omega) (by omega)
            · refine wa_aload_n dX3_pattern_34 rfl 4 rfl ?_
              refine wa_iload_n dX3_pattern_35 rfl 5 rfl ?_
              refine wa_iload dX3_pattern_36 2 rfl ?_
              refine wa_iaddN (a := f) (b := j) dX3_pattern_38 ?_
              refine wa_ialdN (e := f + j) dX3_pattern_39 (ha) (by omega) (by omega) ?_
              refine wa_eqi (y := (nI (qb (f + j)))) ((hqb (f + j) (by omega)).1) ?_
              refine wa_iload dX3_pattern_40 0 rfl ?_
              refine wa_ishr dX3_pattern_42 ?_
              refine wa_iconst (1) dX3_pattern_43 (by decide) ?_
              refine wa_iand dX3_pattern_44 ?_
              refine wa_eqi (y := (nI (qb (f + j) / 2 ^ q % 2))) (by rw [nI_shr (by have := (hqb (f + j) (by omega)).2; omega) (by omega), nI_and1 (Nat.lt_of_le_of_lt (Nat.div_le_self _ _) (by have := (hqb (f + j) (by omega)).2; omega))]) ?_
              refine wa_iconst (1) dX3_pattern_45 (by decide) ?_
              refine wa_icmp_neN (a := qb (f + j) / 2 ^ q % 2) (b := 1) 68 dX3_pattern_46 (by decide) (by omega) (by omega) (fun c_46 => ?_) (fun c_46 => ?_)
              · refine wa_iinc ((nI (q + 1))) [(7, .int (nI (q + 1))), (5, .long (on)), (4, .int (nI (j))), (2, .long (patL qb f j)), (0, wm_r G (a)), (1, .int (nI (f)))] dX3_pattern_68 0 rfl (nI_inc _) (by decide) rfl ?_
                refine wa_goto 28 dX3_pattern_71 (by decide) ?_
                exact ih_28 (q + 1) _ (by omega) (by omega) (by subst ho; simp only [oneL]; first | (rw [if_pos (by rw [tb_div]; exact decide_eq_true c_46)]; done) | (rw [if_neg (by rw [tb_div]; simpa using c_46)]; done))
              · refine wa_lload dX3_pattern_49 1 rfl ?_
                refine wa_gets gX3_pattern_51 ?_
                refine wa_iload dX3_pattern_54 2 rfl ?_
                refine wa_firstldN (e := j) dX3_pattern_56 (by omega) ?_
                refine wa_iload dX3_pattern_57 0 rfl ?_
                refine wa_iconst (2) dX3_pattern_59 (by decide) ?_
                refine wa_iload dX3_pattern_60 2 rfl ?_
                refine wa_imulN (a := 2) (b := j) dX3_pattern_62 ?_
                refine wa_ishl dX3_pattern_63 ?_
                refine wa_eqi (y := (nI (q * 4 ^ j))) (by rw [nI_shl (by omega) (Nat.lt_of_le_of_lt (Nat.mul_le_mul (show q ≤ 4 by omega) (show 2 ^ (2 * j) ≤ 2 ^ 4 from Nat.pow_le_pow_right (by decide) (by omega))) (by decide)), p4]) ?_
                refine wa_lshl dX3_pattern_64 ?_
                refine wa_lor dX3_pattern_65 ?_
                refine wa_lstore [(5, .long ((on) ||| ((wm_first (j)) <<< (((nI (q * 4 ^ j))).toInt64 &&& 63)))), (7, .int (nI (q))), (4, .int (nI (j))), (2, .long (patL qb f j)), (0, wm_r G (a)), (1, .int (nI (f)))] dX3_pattern_66 (by decide) rfl ?_
                refine wa_iinc ((nI (q + 1))) [(7, .int (nI (q + 1))), (5, .long ((on) ||| ((wm_first (j)) <<< (((nI (q * 4 ^ j))).toInt64 &&& 63)))), (4, .int (nI (j))), (2, .long (patL qb f j)), (0, wm_r G (a)), (1, .int (nI (f)))] dX3_pattern_68 1 rfl (nI_inc _) (by decide) rfl ?_
                refine wa_goto 28 dX3_pattern_71 (by decide) ?_
                exact ih_28 (q + 1) _ (by omega) (by omega) (by subst ho; simp only [oneL]; first | (rw [if_pos (by rw [tb_div]; exact decide_eq_true c_46)]; done) | (rw [if_neg (by rw [tb_div]; simpa using c_46)]; done))
        exact L_28 _ 0 0 (Nat.lt_succ_self _) (by omega) rfl
  exact L_7 _ 0 (Nat.lt_succ_self _) (by omega)

theorem m_joinProduct {G : wm_G} {M : wm_M} (k : Nat) (hk : SS k) (a : Nat) (ha : wm_sh a = .inr (0, 6, 0, 0)) (qb : Nat → Nat) (hqb : ∀ j, j < 6 → M.1 a j = nI (qb j) ∧ qb j < 16) : MD G t_X3_joinProduct [wm_r G (k), wm_r G (a)] (M) (none) (wJa M (k + 1) (jpB (M.2.1 (k + 1)) qb)) := by
  refine wm_met (by decide) (Nat.le_of_ble_eq_true rfl) ?_
  show WA G t_X3_joinProduct (fun v_ N_ => v_ = none ∧ N_ = wJa M (k + 1) (jpB (M.2.1 (k + 1)) qb)) 0 [(0, wm_r G (k)), (1, wm_r G (a))] [] (M)
  refine wa_aload_n dX3_joinProduct_0 rfl 1 rfl ?_
  refine wa_iconst (0) dX3_joinProduct_1 (by decide) ?_
  refine wa_cSl (m_pattern a ha qb hqb 0 (by decide)) vX3_pattern iX3_joinProduct_2 rfl rfl (Nat.le_of_ble_eq_true rfl) ⟨by decide, by decide⟩ ?_
  refine wa_lstore_n [(2, .long (patL qb 0 3)), (0, wm_r G (k)), (1, wm_r G (a))] dX3_joinProduct_5 rfl (by decide) rfl ?_
  refine wa_aload_n dX3_joinProduct_6 rfl 2 rfl ?_
  refine wa_iconst (3) dX3_joinProduct_7 (by decide) ?_
  refine wa_cSl (m_pattern a ha qb hqb 3 (by decide)) vX3_pattern iX3_joinProduct_8 rfl rfl (Nat.le_of_ble_eq_true rfl) ⟨by decide, by decide⟩ ?_
  refine wa_lstore [(4, .long (patL qb 3 3)), (2, .long (patL qb 0 3)), (0, wm_r G (k)), (1, wm_r G (a))] dX3_joinProduct_11 (by decide) rfl ?_
  refine wa_iconst (0) dX3_joinProduct_13 (by decide) ?_
  refine wa_istore [(6, .int (0)), (4, .long (patL qb 3 3)), (2, .long (patL qb 0 3)), (0, wm_r G (k)), (1, wm_r G (a))] dX3_joinProduct_14 (by decide) rfl ?_
  have L_16 : ∀ (n_ : Nat) (i : Nat), (64 - i) < n_ → (i ≤ 64) → WA G t_X3_joinProduct (fun v_ N_ => v_ = none ∧ N_ = wJa M (k + 1) (jpB (M.2.1 (k + 1)) qb)) 16 [(6, .int (nI (i))), (4, .long (patL qb 3 3)), (2, .long (patL qb 0 3)), (0, wm_r G (k)), (1, wm_r G (a))] [] (wJa M (k + 1) (wTo (fun i => if lb (patL qb 3 3) i then (M.2.1 (k + 1)) i ||| patL qb 0 3 else (M.2.1 (k + 1)) i) (M.2.1 (k + 1)) i)) := by
    intro n_
    induction n_ with
    | zero => intro i h_; exact absurd h_ (Nat.not_lt_zero _)
    | succ n_ ih_16 =>
      intro i h_ hi
      refine wa_iload dX3_joinProduct_16 0 rfl ?_
      refine wa_bipush (64) dX3_joinProduct_18 (by decide) ?_
      refine wa_icmp_geN (a := i) (b := 64) 52 dX3_joinProduct_20 (by decide) (by omega) (by omega) (fun c_20 => ?_) (fun c_20 => ?_)
      · exact wa_vret dX3_joinProduct_52 rfl ⟨rfl, by unfold jpB; rw [show i = 64 by omega]⟩
      · refine wa_lload dX3_joinProduct_23 1 rfl ?_
        refine wa_iload dX3_joinProduct_25 0 rfl ?_
        refine wa_lushr dX3_joinProduct_27 ?_
        refine wa_lconst (1) dX3_joinProduct_28 (by decide) ?_
        refine wa_land dX3_joinProduct_29 ?_
        refine wa_lconst (1) dX3_joinProduct_30 (by decide) ?_
        refine wa_lcmp dX3_joinProduct_31 ?_
        refine wa_if_ne 46 dX3_joinProduct_32 (by decide) (fun c_32 => ?_) (fun c_32 => ?_)
        · refine wa_eqm (M' := wJa M (k + 1) (wTo (fun i => if lb (patL qb 3 3) i then (M.2.1 (k + 1)) i ||| patL qb 0 3 else (M.2.1 (k + 1)) i) (M.2.1 (k + 1)) (i + 1))) (by congr 1; funext j; unfold wTo; by_cases hj : j < i; (rw [if_pos hj, if_pos (by omega)]); (by_cases hj2 : j = i; (subst hj2; rw [if_neg hj, if_pos (by omega)]; show _ = if _ then _ else _; rw [if_neg (fun q9 => c_32 ((lb_test c_20 _).mpr q9))]); (rw [if_neg hj, if_neg (by omega)]))) ?_
          refine wa_iinc ((nI (i + 1))) [(6, .int (nI (i + 1))), (4, .long (patL qb 3 3)), (2, .long (patL qb 0 3)), (0, wm_r G (k)), (1, wm_r G (a))] dX3_joinProduct_46 0 rfl (nI_inc _) (by decide) rfl ?_
          refine wa_goto 16 dX3_joinProduct_49 (by decide) ?_
          exact ih_16 (i + 1) (by omega) (by omega)
        · refine wa_aload_n dX3_joinProduct_35 rfl 3 rfl ?_
          refine wa_getr gX3_joinProduct_36 (hk.1) rfl ?_
          refine wa_iload dX3_joinProduct_39 0 rfl ?_
          refine wa_dup2_11 dX3_joinProduct_41 rfl rfl ?_
          refine wa_laldN (e := i) dX3_joinProduct_42 (hk.2) (by omega) (by omega) ?_
          refine wa_eql (y := (M.2.1 (k + 1)) i) (by rw [wJa_s, wTo_out (Nat.le_refl _)]) ?_
          refine wa_lload_n dX3_joinProduct_43 rfl 2 rfl ?_
          refine wa_lor dX3_joinProduct_44 ?_
          refine wa_lastN (e := i) dX3_joinProduct_45 (hk.2) (by omega) (by omega) ?_
          refine wa_eqm (M' := wJa M (k + 1) (wTo (fun i => if lb (patL qb 3 3) i then (M.2.1 (k + 1)) i ||| patL qb 0 3 else (M.2.1 (k + 1)) i) (M.2.1 (k + 1)) (i + 1))) (by rw [wJ_wJa, wTo_sL (by rw [if_pos ((lb_test c_20 _).mp c_32)])]) ?_
          refine wa_iinc ((nI (i + 1))) [(6, .int (nI (i + 1))), (4, .long (patL qb 3 3)), (2, .long (patL qb 0 3)), (0, wm_r G (k)), (1, wm_r G (a))] dX3_joinProduct_46 0 rfl (nI_inc _) (by decide) rfl ?_
          refine wa_goto 16 dX3_joinProduct_49 (by decide) ?_
          exact ih_16 (i + 1) (by omega) (by omega)
  refine wa_eqm (M' := wJa M (k + 1) (wTo (fun i => if lb (patL qb 3 3) i then (M.2.1 (k + 1)) i ||| patL qb 0 3 else (M.2.1 (k + 1)) i) (M.2.1 (k + 1)) 0)) (by rw [wTo_0, wJa_self]) ?_
  exact L_16 _ 0 (Nat.lt_succ_self _) (by omega)
